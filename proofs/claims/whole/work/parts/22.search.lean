/-! The search (by tool/search.py). -/
set_option maxHeartbeats 4000000 in
set_option maxRecDepth 100000 in
theorem lp_greatest {p : Program} {l : Launch} {e : Env} {R : Room} {s : State} {m : MethodId} {args : Array Value} {below : List Frame} {meth : Method} {c : Code} {Q : State → Prop} {dC : Nat → ClassId} {dI : Nat → Nat → Nat} {ad : Nat → Nat} {cz ci cj : ClassId} {Ar : Nat → Prop} {k : Nat} (hx : p.tables.exec = Jvm.exec) (hb : c.code = cX0_greatest) (hml : c.maxLocals = 8) (hown : s.vm.findClass "GameGraph" = some m.cls) (hw : ∀ w ∈ wAll, w.before args s = true) (hK : va_K (dC, dI) vwCl (gty cz ci cj) s) (hA : ∀ q, s.heap.size ≤ q → Ar q) (hR1 : 2 * k + 1 ≤ R.frames) (hR2 : 56 * k + 28 ≤ R.locals) (fO fA fB fT : Nat → Int32) (sv : Int32) (fC : Nat → Int64) (rs : Int64) (dk ds : Int32) (fL : Nat → Int32) (c0 : Nat) (hg : g_ok c0 fO fA fB fT) (hnd : g_nd c0 fO fA fB fT) (hs : M_srch l dC dI ad cz ci cj c0 fO fA fB fT k) (n d : Nat) (al be : Int32) (hre : gre c0 fO fA fB fT n) (hrk : grk c0 fO fA fB fT n < k + 1) (hd : grk c0 fO fA fB fT n + d < c0) (hw1 : al.toInt < be.toInt) (hO : ¬ fO n = 0) (hf : gfi fA n = true)
    (kx : ∀ (f : Int32) (fl2 : Nat → Int32) (fh2 : Nat → Int32), (w_ok f.toInt (gval c0 fO fA fB fT n) al.toInt be.toInt) → (g_bd c0 fO fA fB fT fl2 fh2) → ∀ (H : Heap) (locs : List Loc), va_P (dC, dI) vwCl (gw ad cz ci cj ((nI c0), fO, fA, fB, fT, sv, fC, rs, dk, ds, fL, fl2, fh2)) H → va_D Ar (gw ad cz ci cj ((nI c0), fO, fA, fB, fT, sv, fC, rs, dk, ds, fL, fl2, fh2)) → va_S Ar s.heap H locs → ∀ (ls : Array Slot), lv_has ls 8 [(5, .int f)] → W p l e R s m args below meth c H locs 0 0 Q (F0 m 61 ls [])) :
    ∀ (fuel : Nat) (j : Nat) (f : Int32) (fl2 : Nat → Int32) (fh2 : Nat → Int32), gmv fO fA fB n + 1 ≤ j + fuel → j ≤ gmv fO fA fB n → (w_ok f.toInt (w_mx (fun i => gval c0 fO fA fB fT (gtg fT n i)) j) al.toInt be.toInt) → (g_bd c0 fO fA fB fT fl2 fh2) → ∀ (H : Heap) (locs : List Loc), va_P (dC, dI) vwCl (gw ad cz ci cj ((nI c0), fO, fA, fB, fT, sv, fC, rs, dk, ds, fL, fl2, fh2)) H → va_D Ar (gw ad cz ci cj ((nI c0), fO, fA, fB, fT, sv, fC, rs, dk, ds, fL, fl2, fh2)) → va_S Ar s.heap H locs → ∀ (ls : Array Slot), lv_has ls 8 [(0, .ref (ad 0)), (1, .int (nI n)), (2, .int al), (3, .int be), (4, .int (nI d)), (5, .int f), (6, .int (nI (gmv fO fA fB n))), (7, .int (nI j))] → W p l e R s m args below meth c H locs 0 0 Q (F0 m 13 ls []) := by
  intro fuel
  induction fuel with
  | zero => intro j f fl2 fh2 hfu hj hI hbd; exact absurd hfu (by omega)
  | succ fuel ih =>
    intro j f fl2 fh2 hfu hj hI hbd H locs hP hD hS ls hl
    have h60 := hg.2.1
    have hnl := s_re_lt (g_sok hg) hre
    have h12 := (g_mvI hg hnl).2
    refine lv_iload hx hb dX0_greatest_13 (lv_at hl 7 rfl) ?_
    refine lv_iload hx hb dX0_greatest_15 (lv_at hl 6 rfl) ?_
    refine lv_icmp_ge (tgt := 61) hx hb dX0_greatest_17 (by decide) (fun c_1 => ?_) (fun c_1 => ?_)
    · exact kx f fl2 fh2 (by rw [k_vx hg hnd hre hO hf, k_eq hj c_1 (by omega)]; exact hI) hbd _ _ hP hD hS _ (lv_sub hl [5] rfl)
    · have hlt : j < gmv fO fA fB n := k_lt c_1 (by omega)
      refine lv_iload hx hb dX0_greatest_20 (lv_at hl 5 rfl) ?_
      refine lv_iload_n hx hb dX0_greatest_22 rfl (lv_at hl 3 rfl) ?_
      refine lv_icmp_ge (tgt := 61) hx hb dX0_greatest_23 (by decide) (fun cb_2 => ?_) (fun cb_2 => ?_)
      · exact kx f fl2 fh2 (w_ok_cutx hI hw1 (k_il cb_2) (by rw [k_vx hg hnd hre hO hf]; exact w_mx_mono _ _ (by omega))) hbd _ _ hP hD hS _ (lv_sub hl [5] rfl)
      · have hfb := k_nil cb_2
        refine lv_iload hx hb dX0_greatest_26 (lv_at hl 5 rfl) ?_
        refine lv_aload_n hx hb dX0_greatest_28 rfl (lv_at hl 0 rfl) ?_
        refine lv_aload_n hx hb dX0_greatest_29 rfl (lv_at hl 0 rfl) ?_
        refine lv_iload_n hx hb dX0_greatest_30 rfl (lv_at hl 1 rfl) ?_
        refine lv_iload hx hb dX0_greatest_31 (lv_at hl 7 rfl) ?_
        refine g_calli ⟨hx, hb, hml, hown, hw⟩ (c_X0_target l dC dI ad cz ci cj H.size (nI c0) fO fA fB fT sv fC rs dk ds fL fl2 fh2 n j (by omega) (by omega)) (cwV 2 hw gv_X0_X0_target rfl rfl rfl (by decide +kernel) ⟨Nat.le_trans (by show 0 + 1 ≤ 2 * k + 1; omega) hR1, Nat.le_trans (by show 8 + (3 + 11) + 0 ≤ 56 * k + 28; omega) hR2⟩) hK hP hD hS hA (ci := 0) (q0 := 0) rfl rfl rfl hl.1 rfl (Nat.le_of_ble_eq_true rfl) dX0_greatest_33 ⟨Nat.zero_le _, Nat.zero_le _⟩ (fun rbb_3 un H locs hq hP hD hS => ?_)
        obtain ⟨rfl, hq⟩ := hq
        have hP : va_P (dC, dI) vwCl (gw ad cz ci cj ((nI c0), fO, fA, fB, fT, sv, fC, rs, dk, ds, fL, fl2, fh2)) H := hP
        have hD : va_D Ar (gw ad cz ci cj ((nI c0), fO, fA, fB, fT, sv, fC, rs, dk, ds, fL, fl2, fh2)) := hD
        have ht := g_tgI hg hnl (j := j) (by omega)
        refine x_topi (y := nI (gtg fT n j)) (by rw [hq]; exact ht.1) ?_
        have hrc := s_re_ed (g_sok hg) hre hlt
        have hkc := s_rk_lt (g_sok hg) hnd.2 hre hlt
        simp only [grk] at hrk hd
        refine lv_iload_n hx hb dX0_greatest_36 rfl (lv_at hl 2 rfl) ?_
        refine lv_iload hx hb dX0_greatest_37 (lv_at hl 5 rfl) ?_
        refine va_mmax hx hb (hml.trans hl.1.symm) hown (hw _ m_7_32) (hw _ m_7_33) (hw _ m_1_3) (hw _ m_7_34) (Nat.le_trans (by show 1 ≤ 2 * k + 1; omega) hR1) (Nat.le_trans (by show 3 + 13 ≤ 56 * k + 28; omega) hR2) (Nat.zero_le _) (Nat.zero_le _) dX0_greatest_39 ?_
        refine lv_topi (fun wbb_4 ewbb_4 => ?_)
        have hww := congrArg Int32.toInt ewbb_4
        rw [k_max] at hww
        refine lv_iload_n hx hb dX0_greatest_42 rfl (lv_at hl 3 rfl) ?_
        refine lv_iload hx hb dX0_greatest_43 (lv_at hl 4 rfl) ?_
        refine lv_iconst (v := 1) hx hb dX0_greatest_45 (by decide) ?_
        refine lv_iadd hx hb dX0_greatest_46 ?_
        refine x_topi (y := nI (d + 1)) (nI_1 d) ?_
        refine g_calli ⟨hx, hb, hml, hown, hw⟩ (hs H.size sv fC rs dk ds fL fl2 fh2 (gtg fT n j) (d + 1) wbb_4 be hrc (by simp only [grk]; omega) (by simp only [grk]; omega) (by omega) hbd) (cwV 4 hw gv_X0_X0_search rfl rfl rfl (by decide +kernel) ⟨Nat.le_trans (by show 2 * k + 1 ≤ 2 * k + 1; omega) hR1, Nat.le_trans (by show 8 + (6 + 11) + (56 * k) ≤ 56 * k + 28; omega) hR2⟩) hK hP hD hS hA (ci := 0) (q0 := 0) rfl rfl rfl hl.1 rfl (Nat.le_of_ble_eq_true rfl) dX0_greatest_47 ⟨Nat.zero_le _, Nat.zero_le _⟩ (fun rbb_5 un H locs hq hP hD hS => ?_)
        obtain ⟨fl3, fh3, hbd3, hok, rfl⟩ := hq
        have hP : va_P (dC, dI) vwCl (gw ad cz ci cj ((nI c0), fO, fA, fB, fT, sv, fC, rs, dk, ds, fL, fl3, fh3)) H := hP
        have hD : va_D Ar (gw ad cz ci cj ((nI c0), fO, fA, fB, fT, sv, fC, rs, dk, ds, fL, fl3, fh3)) := hD
        refine va_mmax hx hb (hml.trans hl.1.symm) hown (hw _ m_7_32) (hw _ m_7_33) (hw _ m_1_3) (hw _ m_7_34) (Nat.le_trans (by show 1 ≤ 2 * k + 1; omega) hR1) (Nat.le_trans (by show 0 + 13 ≤ 56 * k + 28; omega) hR2) (Nat.zero_le _) (Nat.zero_le _) dX0_greatest_50 ?_
        refine lv_topi (fun fbb_6 efbb_6 => ?_)
        refine lv_istore (lv' := [(5, .int fbb_6), (0, .ref (ad 0)), (1, .int (nI n)), (2, .int al), (3, .int be), (4, .int (nI d)), (6, .int (nI (gmv fO fA fB n))), (7, .int (nI j))]) hx hb dX0_greatest_53 hl (by decide) rfl (fun ls hl => ?_)
        refine lv_iinc (v := (nI (j + 1))) (lv' := [(7, .int (nI (j + 1))), (5, .int fbb_6), (0, .ref (ad 0)), (1, .int (nI n)), (2, .int al), (3, .int be), (4, .int (nI d)), (6, .int (nI (gmv fO fA fB n)))]) hx hb dX0_greatest_55 hl (k := 7) rfl (nI_1 j) (by decide) rfl (fun ls hl => ?_)
        refine lv_goto (tgt := 13) hx hb dX0_greatest_58 (by decide) ?_
        exact ih (j + 1) fbb_6 fl3 fh3 (by omega) (by omega) (by rw [efbb_6, k_max]; rw [hww] at hok; exact w_ok_mx hI hw1 hfb hok) hbd3 _ _ hP hD hS _ (lv_sub hl [2, 3, 4, 5, 6, 1, 7, 0] rfl)
set_option maxHeartbeats 4000000 in
set_option maxRecDepth 100000 in
theorem c_greatest (l : Launch) (dC : Nat → ClassId) (dI : Nat → Nat → Nat) (ad : Nat → Nat) (cz ci cj : ClassId) (c0 : Nat) (fO fA fB fT : Nat → Int32) (hg : g_ok c0 fO fA fB fT) (hnd : g_nd c0 fO fA fB fT) (k : Nat) (hs : M_srch l dC dI ad cz ci cj c0 fO fA fB fT k) : M_pick yX0_greatest wX0_greatest true l dC dI ad cz ci cj c0 fO fA fB fT k := by
  intro sz sv fC rs dk ds fL fl fh n d al be hre hrk hd hw1 hbd hO hf
  refine Met.ofW (cc := cX0_greatest) (maxL := 8) (ret := some .int) (by decide) rfl ?_
  intro p e s m args below meth c s₁ Bd hml hv
  obtain ⟨rfl, hsz, hP, hK, hD0⟩ := hv
  have hx := Bd.exec
  have hb := Bd.bytes
  have hr := Bd.returns
  have hts := atoms_spec (ws := wX0_greatest) Bd.pre
  have hw : ∀ w ∈ wAll, w.before _ s = true := fun w h => hts w (List.mem_cons_of_mem _ h)
  have hown : s.vm.findClass "GameGraph" = some m.cls := findClass_of_methodNamed Bd.named
  have hlocks := Bd.notSynchronized
  subst hsz
  have hD := hD0.self (sz := s.heap.size)
  generalize hAe : va_A (gw ad cz ci cj ((nI c0), fO, fA, fB, fT, sv, fC, rs, dk, ds, fL, fl, fh)) s.heap.size = Ar at hD ⊢
  have hA : ∀ q : Nat, s.heap.size ≤ q → Ar q := fun q h => by rw [← hAe]; exact Or.inr h
  obtain ⟨H, hH⟩ : ∃ H : Heap, H = s.heap := ⟨_, rfl⟩
  have hS : va_S Ar s.heap H [] := by rw [hH]; exact va_S.rf
  have hP : va_P (dC, dI) vwCl (gw ad cz ci cj ((nI c0), fO, fA, fB, fT, sv, fC, rs, dk, ds, fL, fl, fh)) H := by rw [hH]; exact hP
  rw [← hH]
  have hl := lv_entry ([.ref (ad 0), .int (nI n), .int al, .int be, .int (nI d)]) (n := 8) (Nat.le_of_ble_eq_true rfl)
  rw [lg_entry_eq]
  generalize (lg_sl ([.ref (ad 0), .int (nI n), .int al, .int be, .int (nI d)]) ++ List.replicate (8 - (lg_sl ([.ref (ad 0), .int (nI n), .int al, .int be, .int (nI d)])).length) Slot.unset).toArray = ls at hl ⊢
  have hl : lv_has ls 8 [(0, .ref (ad 0)), (1, .int (nI n)), (2, .int al), (3, .int be), (4, .int (nI d))] := hl
  have h60 := hg.2.1
  have hnl := s_re_lt (g_sok hg) hre
  refine lv_iconst (v := 0) hx hb dX0_greatest_0 (by decide) ?_
  refine lv_istore (lv' := [(5, .int 0), (0, .ref (ad 0)), (1, .int (nI n)), (2, .int al), (3, .int be), (4, .int (nI d))]) hx hb dX0_greatest_1 hl (by decide) rfl (fun ls hl => ?_)
  refine lv_aload_n hx hb dX0_greatest_3 rfl (lv_at hl 1 rfl) ?_
  refine lv_iload_n hx hb dX0_greatest_4 rfl (lv_at hl 2 rfl) ?_
  refine g_calli ⟨hx, hb, hml, hown, hw⟩ (c_X0_jointMoves l dC dI ad cz ci cj H.size (nI c0) fO fA fB fT sv fC rs dk ds fL fl fh n (by omega)) (cwV 1 hw gv_X0_X0_jointMoves rfl rfl rfl (by decide +kernel) ⟨by show 0 + 1 ≤ 2 * k + 1; omega, by show 8 + (2 + 11) + 0 ≤ 56 * k + 28; omega⟩) hK hP hD hS hA (ci := 0) (q0 := 0) rfl rfl rfl hl.1 rfl (Nat.le_of_ble_eq_true rfl) dX0_greatest_5 ⟨Nat.zero_le _, Nat.zero_le _⟩ (fun r_1 un H locs hq hP hD hS => ?_)
  obtain ⟨rfl, hq⟩ := hq
  have hP : va_P (dC, dI) vwCl (gw ad cz ci cj ((nI c0), fO, fA, fB, fT, sv, fC, rs, dk, ds, fL, fl, fh)) H := hP
  have hD : va_D Ar (gw ad cz ci cj ((nI c0), fO, fA, fB, fT, sv, fC, rs, dk, ds, fL, fl, fh)) := hD
  refine x_topi (y := nI (gmv fO fA fB n)) (by rw [hq]; exact (g_mvI hg hnl).1) ?_
  refine lv_istore (lv' := [(6, .int (nI (gmv fO fA fB n))), (5, .int 0), (0, .ref (ad 0)), (1, .int (nI n)), (2, .int al), (3, .int be), (4, .int (nI d))]) hx hb dX0_greatest_8 hl (by decide) rfl (fun ls hl => ?_)
  refine lv_iconst (v := 0) hx hb dX0_greatest_10 (by decide) ?_
  refine x_topi (y := nI 0) (rfl) ?_
  refine lv_istore (lv' := [(7, .int (nI 0)), (6, .int (nI (gmv fO fA fB n))), (5, .int 0), (0, .ref (ad 0)), (1, .int (nI n)), (2, .int al), (3, .int be), (4, .int (nI d))]) hx hb dX0_greatest_11 hl (by decide) rfl (fun ls hl => ?_)
  refine lp_greatest (dC := dC) (dI := dI) (ad := ad) (cz := cz) (ci := ci) (cj := cj) (Ar := Ar) hx hb hml hown hw hK hA (Nat.le_refl _) (Nat.le_refl _) fO fA fB fT sv fC rs dk ds fL c0 hg hnd hs n d al be hre hrk hd hw1 hO hf ?_ (gmv fO fA fB n + 1) 0 0 fl fh (by omega) (by omega) (w_ok_rf _ _ _) hbd _ _ hP hD hS _ (lv_sub hl [3, 4, 5, 6, 7, 2, 1, 0] rfl)
  intro f fl2 fh2 hI hbd H locs hP hD hS ls hl
  refine lv_iload hx hb dX0_greatest_61 (lv_at hl 0 rfl) ?_
  exact W.iret (v := f) hx hb hr (fun t ht hW => ⟨⟨f, ((nI c0), fO, fA, fB, fT, sv, fC, rs, dk, ds, fL, fl2, fh2), rfl, (⟨fl2, fh2, hbd, hI, rfl⟩), (by rw [ht]; exact hP), va_K.moved hW.alike hK, hD⟩, hS.F ht⟩) hS.2.2 dX0_greatest_63
set_option maxHeartbeats 4000000 in
set_option maxRecDepth 100000 in
theorem lp_least {p : Program} {l : Launch} {e : Env} {R : Room} {s : State} {m : MethodId} {args : Array Value} {below : List Frame} {meth : Method} {c : Code} {Q : State → Prop} {dC : Nat → ClassId} {dI : Nat → Nat → Nat} {ad : Nat → Nat} {cz ci cj : ClassId} {Ar : Nat → Prop} {k : Nat} (hx : p.tables.exec = Jvm.exec) (hb : c.code = cX0_least) (hml : c.maxLocals = 8) (hown : s.vm.findClass "GameGraph" = some m.cls) (hw : ∀ w ∈ wAll, w.before args s = true) (hK : va_K (dC, dI) vwCl (gty cz ci cj) s) (hA : ∀ q, s.heap.size ≤ q → Ar q) (hR1 : 2 * k + 1 ≤ R.frames) (hR2 : 56 * k + 28 ≤ R.locals) (fO fA fB fT : Nat → Int32) (sv : Int32) (fC : Nat → Int64) (rs : Int64) (dk ds : Int32) (fL : Nat → Int32) (c0 : Nat) (hg : g_ok c0 fO fA fB fT) (hnd : g_nd c0 fO fA fB fT) (hs : M_srch l dC dI ad cz ci cj c0 fO fA fB fT k) (n d : Nat) (al be : Int32) (hre : gre c0 fO fA fB fT n) (hrk : grk c0 fO fA fB fT n < k + 1) (hd : grk c0 fO fA fB fT n + d < c0) (hw1 : al.toInt < be.toInt) (hO : ¬ fO n = 0) (hf : gfi fA n = false)
    (kx : ∀ (f : Int32) (fl2 : Nat → Int32) (fh2 : Nat → Int32), (w_ok f.toInt (gval c0 fO fA fB fT n) al.toInt be.toInt) → (g_bd c0 fO fA fB fT fl2 fh2) → ∀ (H : Heap) (locs : List Loc), va_P (dC, dI) vwCl (gw ad cz ci cj ((nI c0), fO, fA, fB, fT, sv, fC, rs, dk, ds, fL, fl2, fh2)) H → va_D Ar (gw ad cz ci cj ((nI c0), fO, fA, fB, fT, sv, fC, rs, dk, ds, fL, fl2, fh2)) → va_S Ar s.heap H locs → ∀ (ls : Array Slot), lv_has ls 8 [(5, .int f)] → W p l e R s m args below meth c H locs 0 0 Q (F0 m 62 ls [])) :
    ∀ (fuel : Nat) (j : Nat) (f : Int32) (fl2 : Nat → Int32) (fh2 : Nat → Int32), gmv fO fA fB n + 1 ≤ j + fuel → j ≤ gmv fO fA fB n → (w_ok f.toInt (w_mn (fun i => gval c0 fO fA fB fT (gtg fT n i)) j) al.toInt be.toInt) → (g_bd c0 fO fA fB fT fl2 fh2) → ∀ (H : Heap) (locs : List Loc), va_P (dC, dI) vwCl (gw ad cz ci cj ((nI c0), fO, fA, fB, fT, sv, fC, rs, dk, ds, fL, fl2, fh2)) H → va_D Ar (gw ad cz ci cj ((nI c0), fO, fA, fB, fT, sv, fC, rs, dk, ds, fL, fl2, fh2)) → va_S Ar s.heap H locs → ∀ (ls : Array Slot), lv_has ls 8 [(0, .ref (ad 0)), (1, .int (nI n)), (2, .int al), (3, .int be), (4, .int (nI d)), (5, .int f), (6, .int (nI (gmv fO fA fB n))), (7, .int (nI j))] → W p l e R s m args below meth c H locs 0 0 Q (F0 m 14 ls []) := by
  intro fuel
  induction fuel with
  | zero => intro j f fl2 fh2 hfu hj hI hbd; exact absurd hfu (by omega)
  | succ fuel ih =>
    intro j f fl2 fh2 hfu hj hI hbd H locs hP hD hS ls hl
    have h60 := hg.2.1
    have hnl := s_re_lt (g_sok hg) hre
    have h12 := (g_mvI hg hnl).2
    refine lv_iload hx hb dX0_least_14 (lv_at hl 7 rfl) ?_
    refine lv_iload hx hb dX0_least_16 (lv_at hl 6 rfl) ?_
    refine lv_icmp_ge (tgt := 62) hx hb dX0_least_18 (by decide) (fun c_1 => ?_) (fun c_1 => ?_)
    · exact kx f fl2 fh2 (by rw [k_vn hg hnd hre hO hf, k_eq hj c_1 (by omega)]; exact hI) hbd _ _ hP hD hS _ (lv_sub hl [5] rfl)
    · have hlt : j < gmv fO fA fB n := k_lt c_1 (by omega)
      refine lv_iload hx hb dX0_least_21 (lv_at hl 5 rfl) ?_
      refine lv_iload_n hx hb dX0_least_23 rfl (lv_at hl 2 rfl) ?_
      refine lv_icmp_le (tgt := 62) hx hb dX0_least_24 (by decide) (fun cb_2 => ?_) (fun cb_2 => ?_)
      · exact kx f fl2 fh2 (w_ok_cutn hI hw1 (k_il cb_2) (by rw [k_vn hg hnd hre hO hf]; exact w_mn_mono _ _ (by omega))) hbd _ _ hP hD hS _ (lv_sub hl [5] rfl)
      · have hfb := k_nil cb_2
        refine lv_iload hx hb dX0_least_27 (lv_at hl 5 rfl) ?_
        refine lv_aload_n hx hb dX0_least_29 rfl (lv_at hl 0 rfl) ?_
        refine lv_aload_n hx hb dX0_least_30 rfl (lv_at hl 0 rfl) ?_
        refine lv_iload_n hx hb dX0_least_31 rfl (lv_at hl 1 rfl) ?_
        refine lv_iload hx hb dX0_least_32 (lv_at hl 7 rfl) ?_
        refine g_calli ⟨hx, hb, hml, hown, hw⟩ (c_X0_target l dC dI ad cz ci cj H.size (nI c0) fO fA fB fT sv fC rs dk ds fL fl2 fh2 n j (by omega) (by omega)) (cwV 2 hw gv_X0_X0_target rfl rfl rfl (by decide +kernel) ⟨Nat.le_trans (by show 0 + 1 ≤ 2 * k + 1; omega) hR1, Nat.le_trans (by show 8 + (3 + 11) + 0 ≤ 56 * k + 28; omega) hR2⟩) hK hP hD hS hA (ci := 0) (q0 := 0) rfl rfl rfl hl.1 rfl (Nat.le_of_ble_eq_true rfl) dX0_least_34 ⟨Nat.zero_le _, Nat.zero_le _⟩ (fun rbb_3 un H locs hq hP hD hS => ?_)
        obtain ⟨rfl, hq⟩ := hq
        have hP : va_P (dC, dI) vwCl (gw ad cz ci cj ((nI c0), fO, fA, fB, fT, sv, fC, rs, dk, ds, fL, fl2, fh2)) H := hP
        have hD : va_D Ar (gw ad cz ci cj ((nI c0), fO, fA, fB, fT, sv, fC, rs, dk, ds, fL, fl2, fh2)) := hD
        have ht := g_tgI hg hnl (j := j) (by omega)
        refine x_topi (y := nI (gtg fT n j)) (by rw [hq]; exact ht.1) ?_
        have hrc := s_re_ed (g_sok hg) hre hlt
        have hkc := s_rk_lt (g_sok hg) hnd.2 hre hlt
        simp only [grk] at hrk hd
        refine lv_iload_n hx hb dX0_least_37 rfl (lv_at hl 2 rfl) ?_
        refine lv_iload_n hx hb dX0_least_38 rfl (lv_at hl 3 rfl) ?_
        refine lv_iload hx hb dX0_least_39 (lv_at hl 5 rfl) ?_
        refine va_mmin hx hb (hml.trans hl.1.symm) hown (hw _ m_7_38) (hw _ m_7_39) (hw _ m_1_3) (hw _ m_8_0) (Nat.le_trans (by show 1 ≤ 2 * k + 1; omega) hR1) (Nat.le_trans (by show 4 + 13 ≤ 56 * k + 28; omega) hR2) (Nat.zero_le _) (Nat.zero_le _) dX0_least_41 ?_
        refine lv_topi (fun wbb_4 ewbb_4 => ?_)
        have hww := congrArg Int32.toInt ewbb_4
        rw [k_min] at hww
        refine lv_iload hx hb dX0_least_44 (lv_at hl 4 rfl) ?_
        refine lv_iconst (v := 1) hx hb dX0_least_46 (by decide) ?_
        refine lv_iadd hx hb dX0_least_47 ?_
        refine x_topi (y := nI (d + 1)) (nI_1 d) ?_
        refine g_calli ⟨hx, hb, hml, hown, hw⟩ (hs H.size sv fC rs dk ds fL fl2 fh2 (gtg fT n j) (d + 1) al wbb_4 hrc (by simp only [grk]; omega) (by simp only [grk]; omega) (by omega) hbd) (cwV 4 hw gv_X0_X0_search rfl rfl rfl (by decide +kernel) ⟨Nat.le_trans (by show 2 * k + 1 ≤ 2 * k + 1; omega) hR1, Nat.le_trans (by show 8 + (6 + 11) + (56 * k) ≤ 56 * k + 28; omega) hR2⟩) hK hP hD hS hA (ci := 0) (q0 := 0) rfl rfl rfl hl.1 rfl (Nat.le_of_ble_eq_true rfl) dX0_least_48 ⟨Nat.zero_le _, Nat.zero_le _⟩ (fun rbb_5 un H locs hq hP hD hS => ?_)
        obtain ⟨fl3, fh3, hbd3, hok, rfl⟩ := hq
        have hP : va_P (dC, dI) vwCl (gw ad cz ci cj ((nI c0), fO, fA, fB, fT, sv, fC, rs, dk, ds, fL, fl3, fh3)) H := hP
        have hD : va_D Ar (gw ad cz ci cj ((nI c0), fO, fA, fB, fT, sv, fC, rs, dk, ds, fL, fl3, fh3)) := hD
        refine va_mmin hx hb (hml.trans hl.1.symm) hown (hw _ m_7_38) (hw _ m_7_39) (hw _ m_1_3) (hw _ m_8_0) (Nat.le_trans (by show 1 ≤ 2 * k + 1; omega) hR1) (Nat.le_trans (by show 0 + 13 ≤ 56 * k + 28; omega) hR2) (Nat.zero_le _) (Nat.zero_le _) dX0_least_51 ?_
        refine lv_topi (fun fbb_6 efbb_6 => ?_)
        refine lv_istore (lv' := [(5, .int fbb_6), (0, .ref (ad 0)), (1, .int (nI n)), (2, .int al), (3, .int be), (4, .int (nI d)), (6, .int (nI (gmv fO fA fB n))), (7, .int (nI j))]) hx hb dX0_least_54 hl (by decide) rfl (fun ls hl => ?_)
        refine lv_iinc (v := (nI (j + 1))) (lv' := [(7, .int (nI (j + 1))), (5, .int fbb_6), (0, .ref (ad 0)), (1, .int (nI n)), (2, .int al), (3, .int be), (4, .int (nI d)), (6, .int (nI (gmv fO fA fB n)))]) hx hb dX0_least_56 hl (k := 7) rfl (nI_1 j) (by decide) rfl (fun ls hl => ?_)
        refine lv_goto (tgt := 14) hx hb dX0_least_59 (by decide) ?_
        exact ih (j + 1) fbb_6 fl3 fh3 (by omega) (by omega) (by rw [efbb_6, k_min]; rw [hww] at hok; exact w_ok_mn hI hw1 hfb hok) hbd3 _ _ hP hD hS _ (lv_sub hl [2, 3, 4, 5, 6, 1, 7, 0] rfl)
set_option maxHeartbeats 4000000 in
set_option maxRecDepth 100000 in
theorem c_least (l : Launch) (dC : Nat → ClassId) (dI : Nat → Nat → Nat) (ad : Nat → Nat) (cz ci cj : ClassId) (c0 : Nat) (fO fA fB fT : Nat → Int32) (hg : g_ok c0 fO fA fB fT) (hnd : g_nd c0 fO fA fB fT) (k : Nat) (hs : M_srch l dC dI ad cz ci cj c0 fO fA fB fT k) : M_pick yX0_least wX0_least false l dC dI ad cz ci cj c0 fO fA fB fT k := by
  intro sz sv fC rs dk ds fL fl fh n d al be hre hrk hd hw1 hbd hO hf
  refine Met.ofW (cc := cX0_least) (maxL := 8) (ret := some .int) (by decide) rfl ?_
  intro p e s m args below meth c s₁ Bd hml hv
  obtain ⟨rfl, hsz, hP, hK, hD0⟩ := hv
  have hx := Bd.exec
  have hb := Bd.bytes
  have hr := Bd.returns
  have hts := atoms_spec (ws := wX0_least) Bd.pre
  have hw : ∀ w ∈ wAll, w.before _ s = true := fun w h => hts w (List.mem_cons_of_mem _ h)
  have hown : s.vm.findClass "GameGraph" = some m.cls := findClass_of_methodNamed Bd.named
  have hlocks := Bd.notSynchronized
  subst hsz
  have hD := hD0.self (sz := s.heap.size)
  generalize hAe : va_A (gw ad cz ci cj ((nI c0), fO, fA, fB, fT, sv, fC, rs, dk, ds, fL, fl, fh)) s.heap.size = Ar at hD ⊢
  have hA : ∀ q : Nat, s.heap.size ≤ q → Ar q := fun q h => by rw [← hAe]; exact Or.inr h
  obtain ⟨H, hH⟩ : ∃ H : Heap, H = s.heap := ⟨_, rfl⟩
  have hS : va_S Ar s.heap H [] := by rw [hH]; exact va_S.rf
  have hP : va_P (dC, dI) vwCl (gw ad cz ci cj ((nI c0), fO, fA, fB, fT, sv, fC, rs, dk, ds, fL, fl, fh)) H := by rw [hH]; exact hP
  rw [← hH]
  have hl := lv_entry ([.ref (ad 0), .int (nI n), .int al, .int be, .int (nI d)]) (n := 8) (Nat.le_of_ble_eq_true rfl)
  rw [lg_entry_eq]
  generalize (lg_sl ([.ref (ad 0), .int (nI n), .int al, .int be, .int (nI d)]) ++ List.replicate (8 - (lg_sl ([.ref (ad 0), .int (nI n), .int al, .int be, .int (nI d)])).length) Slot.unset).toArray = ls at hl ⊢
  have hl : lv_has ls 8 [(0, .ref (ad 0)), (1, .int (nI n)), (2, .int al), (3, .int be), (4, .int (nI d))] := hl
  have h60 := hg.2.1
  have hnl := s_re_lt (g_sok hg) hre
  refine lv_bipush (v := 100) hx hb dX0_least_0 (by decide) ?_
  refine lv_istore (lv' := [(5, .int 100), (0, .ref (ad 0)), (1, .int (nI n)), (2, .int al), (3, .int be), (4, .int (nI d))]) hx hb dX0_least_2 hl (by decide) rfl (fun ls hl => ?_)
  refine lv_aload_n hx hb dX0_least_4 rfl (lv_at hl 1 rfl) ?_
  refine lv_iload_n hx hb dX0_least_5 rfl (lv_at hl 2 rfl) ?_
  refine g_calli ⟨hx, hb, hml, hown, hw⟩ (c_X0_jointMoves l dC dI ad cz ci cj H.size (nI c0) fO fA fB fT sv fC rs dk ds fL fl fh n (by omega)) (cwV 1 hw gv_X0_X0_jointMoves rfl rfl rfl (by decide +kernel) ⟨by show 0 + 1 ≤ 2 * k + 1; omega, by show 8 + (2 + 11) + 0 ≤ 56 * k + 28; omega⟩) hK hP hD hS hA (ci := 0) (q0 := 0) rfl rfl rfl hl.1 rfl (Nat.le_of_ble_eq_true rfl) dX0_least_6 ⟨Nat.zero_le _, Nat.zero_le _⟩ (fun r_1 un H locs hq hP hD hS => ?_)
  obtain ⟨rfl, hq⟩ := hq
  have hP : va_P (dC, dI) vwCl (gw ad cz ci cj ((nI c0), fO, fA, fB, fT, sv, fC, rs, dk, ds, fL, fl, fh)) H := hP
  have hD : va_D Ar (gw ad cz ci cj ((nI c0), fO, fA, fB, fT, sv, fC, rs, dk, ds, fL, fl, fh)) := hD
  refine x_topi (y := nI (gmv fO fA fB n)) (by rw [hq]; exact (g_mvI hg hnl).1) ?_
  refine lv_istore (lv' := [(6, .int (nI (gmv fO fA fB n))), (5, .int 100), (0, .ref (ad 0)), (1, .int (nI n)), (2, .int al), (3, .int be), (4, .int (nI d))]) hx hb dX0_least_9 hl (by decide) rfl (fun ls hl => ?_)
  refine lv_iconst (v := 0) hx hb dX0_least_11 (by decide) ?_
  refine x_topi (y := nI 0) (rfl) ?_
  refine lv_istore (lv' := [(7, .int (nI 0)), (6, .int (nI (gmv fO fA fB n))), (5, .int 100), (0, .ref (ad 0)), (1, .int (nI n)), (2, .int al), (3, .int be), (4, .int (nI d))]) hx hb dX0_least_12 hl (by decide) rfl (fun ls hl => ?_)
  refine lp_least (dC := dC) (dI := dI) (ad := ad) (cz := cz) (ci := ci) (cj := cj) (Ar := Ar) hx hb hml hown hw hK hA (Nat.le_refl _) (Nat.le_refl _) fO fA fB fT sv fC rs dk ds fL c0 hg hnd hs n d al be hre hrk hd hw1 hO hf ?_ (gmv fO fA fB n + 1) 0 100 fl fh (by omega) (by omega) (w_ok_rf _ _ _) hbd _ _ hP hD hS _ (lv_sub hl [3, 4, 5, 6, 7, 2, 1, 0] rfl)
  intro f fl2 fh2 hI hbd H locs hP hD hS ls hl
  refine lv_iload hx hb dX0_least_62 (lv_at hl 0 rfl) ?_
  exact W.iret (v := f) hx hb hr (fun t ht hW => ⟨⟨f, ((nI c0), fO, fA, fB, fT, sv, fC, rs, dk, ds, fL, fl2, fh2), rfl, (⟨fl2, fh2, hbd, hI, rfl⟩), (by rw [ht]; exact hP), va_K.moved hW.alike hK, hD⟩, hS.F ht⟩) hS.2.2 dX0_least_64
set_option maxHeartbeats 4000000 in
set_option maxRecDepth 100000 in
theorem c_search1 (l : Launch) (dC : Nat → ClassId) (dI : Nat → Nat → Nat) (ad : Nat → Nat) (cz ci cj : ClassId) (c0 : Nat) (fO fA fB fT : Nat → Int32) (hg : g_ok c0 fO fA fB fT) (hnd : g_nd c0 fO fA fB fT) (k : Nat) (hg2 : M_pick yX0_greatest wX0_greatest true l dC dI ad cz ci cj c0 fO fA fB fT k) (hl2 : M_pick yX0_least wX0_least false l dC dI ad cz ci cj c0 fO fA fB fT k) : M_srch l dC dI ad cz ci cj c0 fO fA fB fT (k + 1) := by
  intro sz sv fC rs dk ds fL fl fh n d al be hre hrk hd hw1 hbd
  refine Met.ofW (cc := cX0_search) (maxL := 6) (ret := some .int) (by decide) rfl ?_
  intro p e s m args below meth c s₁ Bd hml hv
  obtain ⟨rfl, hsz, hP, hK, hD0⟩ := hv
  have hx := Bd.exec
  have hb := Bd.bytes
  have hr := Bd.returns
  have hts := atoms_spec (ws := wX0_search) Bd.pre
  have hw : ∀ w ∈ wAll, w.before _ s = true := fun w h => hts w (List.mem_cons_of_mem _ h)
  have hown : s.vm.findClass "GameGraph" = some m.cls := findClass_of_methodNamed Bd.named
  have hlocks := Bd.notSynchronized
  subst hsz
  have hD := hD0.self (sz := s.heap.size)
  generalize hAe : va_A (gw ad cz ci cj ((nI c0), fO, fA, fB, fT, sv, fC, rs, dk, ds, fL, fl, fh)) s.heap.size = Ar at hD ⊢
  have hA : ∀ q : Nat, s.heap.size ≤ q → Ar q := fun q h => by rw [← hAe]; exact Or.inr h
  obtain ⟨H, hH⟩ : ∃ H : Heap, H = s.heap := ⟨_, rfl⟩
  have hS : va_S Ar s.heap H [] := by rw [hH]; exact va_S.rf
  have hP : va_P (dC, dI) vwCl (gw ad cz ci cj ((nI c0), fO, fA, fB, fT, sv, fC, rs, dk, ds, fL, fl, fh)) H := by rw [hH]; exact hP
  rw [← hH]
  have hl := lv_entry ([.ref (ad 0), .int (nI n), .int al, .int be, .int (nI d)]) (n := 6) (Nat.le_of_ble_eq_true rfl)
  rw [lg_entry_eq]
  generalize (lg_sl ([.ref (ad 0), .int (nI n), .int al, .int be, .int (nI d)]) ++ List.replicate (6 - (lg_sl ([.ref (ad 0), .int (nI n), .int al, .int be, .int (nI d)])).length) Slot.unset).toArray = ls at hl ⊢
  have hl : lv_has ls 6 [(0, .ref (ad 0)), (1, .int (nI n)), (2, .int al), (3, .int be), (4, .int (nI d))] := hl
  have h60 := hg.2.1
  have hnl := s_re_lt (g_sok hg) hre
  obtain ⟨b1, b2, b3⟩ := hbd n hre
  refine lv_aload_n hx hb dX0_search_0 rfl (lv_at hl 0 rfl) ?_
  refine va_get (D := (dC, dI)) (ci := 0) (v := .ref (ad 7)) (C := RX0) (T := TX0) (N := 13) hx hb hw in_X0 hown hK hP 0 rfl rfl 11 (by decide) (hw _ m_1_29) (fun _ h9 => h9) rfl dX0_search_1 ?_
  refine lv_iload_n hx hb dX0_search_4 rfl (lv_at hl 1 rfl) ?_
  refine va_iald hx hb hK hP 7 1 rfl rfl (vp_in_nI (by omega) (by decide)) dX0_search_5 ?_
  refine x_topi (y := fl n) (by rw [nI_clamp (by omega)]) ?_
  refine lv_aload_n hx hb dX0_search_6 rfl (lv_at hl 0 rfl) ?_
  refine va_get (D := (dC, dI)) (ci := 0) (v := .ref (ad 8)) (C := RX0) (T := TX0) (N := 13) hx hb hw in_X0 hown hK hP 0 rfl rfl 12 (by decide) (hw _ m_1_30) (fun _ h9 => h9) rfl dX0_search_7 ?_
  refine lv_iload_n hx hb dX0_search_10 rfl (lv_at hl 1 rfl) ?_
  refine va_iald hx hb hK hP 8 1 rfl rfl (vp_in_nI (by omega) (by decide)) dX0_search_11 ?_
  refine x_topi (y := fh n) (by rw [nI_clamp (by omega)]) ?_
  refine lv_icmp_eq (tgt := 25) hx hb dX0_search_12 (by decide) (fun c_1 => ?_) (fun c_1 => ?_)
  · refine lv_aload_n hx hb dX0_search_25 rfl (lv_at hl 0 rfl) ?_
    refine va_get (D := (dC, dI)) (ci := 0) (v := .ref (ad 7)) (C := RX0) (T := TX0) (N := 13) hx hb hw in_X0 hown hK hP 0 rfl rfl 11 (by decide) (hw _ m_1_29) (fun _ h9 => h9) rfl dX0_search_26 ?_
    refine lv_iload_n hx hb dX0_search_29 rfl (lv_at hl 1 rfl) ?_
    refine va_iald hx hb hK hP 7 1 rfl rfl (vp_in_nI (by omega) (by decide)) dX0_search_30 ?_
    refine x_topi (y := fl n) (by rw [nI_clamp (by omega)]) ?_
    have e1 := congrArg Int32.toInt c_1
    exact W.iret (v := (fl n)) hx hb hr (fun t ht hW => ⟨⟨(fl n), ((nI c0), fO, fA, fB, fT, sv, fC, rs, dk, ds, fL, fl, fh), rfl, (⟨fl, fh, hbd, by rw [show (fl n).toInt = gval c0 fO fA fB fT n by omega]; exact w_ok_rf _ _ _, rfl⟩), (by rw [ht]; exact hP), va_K.moved hW.alike hK, hD⟩, hS.F ht⟩) hS.2.2 dX0_search_31
  · have hO : ¬ fO n = 0 := fun q => c_1 (b3 q)
    refine lv_aload_n hx hb dX0_search_15 rfl (lv_at hl 0 rfl) ?_
    refine va_get (D := (dC, dI)) (ci := 0) (v := .ref (ad 7)) (C := RX0) (T := TX0) (N := 13) hx hb hw in_X0 hown hK hP 0 rfl rfl 11 (by decide) (hw _ m_1_29) (fun _ h9 => h9) rfl dX0_search_16 ?_
    refine lv_iload_n hx hb dX0_search_19 rfl (lv_at hl 1 rfl) ?_
    refine va_iald hx hb hK hP 7 1 rfl rfl (vp_in_nI (by omega) (by decide)) dX0_search_20 ?_
    refine x_topi (y := fl n) (by rw [nI_clamp (by omega)]) ?_
    refine lv_iload_n hx hb dX0_search_21 rfl (lv_at hl 3 rfl) ?_
    refine lv_icmp_lt (tgt := 32) hx hb dX0_search_22 (by decide) (fun cb_2 => ?_) (fun cb_2 => ?_)
    · refine lv_aload_n hx hb dX0_search_32 rfl (lv_at hl 0 rfl) ?_
      refine va_get (D := (dC, dI)) (ci := 0) (v := .ref (ad 8)) (C := RX0) (T := TX0) (N := 13) hx hb hw in_X0 hown hK hP 0 rfl rfl 12 (by decide) (hw _ m_1_30) (fun _ h9 => h9) rfl dX0_search_33 ?_
      refine lv_iload_n hx hb dX0_search_36 rfl (lv_at hl 1 rfl) ?_
      refine va_iald hx hb hK hP 8 1 rfl rfl (vp_in_nI (by omega) (by decide)) dX0_search_37 ?_
      refine x_topi (y := fh n) (by rw [nI_clamp (by omega)]) ?_
      refine lv_iload_n hx hb dX0_search_38 rfl (lv_at hl 2 rfl) ?_
      refine lv_icmp_le (tgt := 51) hx hb dX0_search_39 (by decide) (fun cba_3 => ?_) (fun cba_3 => ?_)
      · have e3 := k_il cba_3
        refine lv_aload_n hx hb dX0_search_51 rfl (lv_at hl 0 rfl) ?_
        refine va_get (D := (dC, dI)) (ci := 0) (v := .ref (ad 8)) (C := RX0) (T := TX0) (N := 13) hx hb hw in_X0 hown hK hP 0 rfl rfl 12 (by decide) (hw _ m_1_30) (fun _ h9 => h9) rfl dX0_search_52 ?_
        refine lv_iload_n hx hb dX0_search_55 rfl (lv_at hl 1 rfl) ?_
        refine va_iald hx hb hK hP 8 1 rfl rfl (vp_in_nI (by omega) (by decide)) dX0_search_56 ?_
        refine x_topi (y := fh n) (by rw [nI_clamp (by omega)]) ?_
        exact W.iret (v := (fh n)) hx hb hr (fun t ht hW => ⟨⟨(fh n), ((nI c0), fO, fA, fB, fT, sv, fC, rs, dk, ds, fL, fl, fh), rfl, (⟨fl, fh, hbd, ⟨fun q => ⟨b2, e3⟩, fun q _ => (by omega), fun q => (by omega)⟩, rfl⟩), (by rw [ht]; exact hP), va_K.moved hW.alike hK, hD⟩, hS.F ht⟩) hS.2.2 dX0_search_57
      · have hdl : nI d < nI c0 := nI_lt (by simp only [grk] at hd; omega) (by omega)
        refine lv_iload hx hb dX0_search_42 (lv_at hl 4 rfl) ?_
        refine lv_aload_n hx hb dX0_search_44 rfl (lv_at hl 0 rfl) ?_
        refine va_get (D := (dC, dI)) (ci := 0) (v := .int (nI c0)) (C := RX0) (T := TX0) (N := 13) hx hb hw in_X0 hown hK hP 0 rfl rfl 0 (by decide) (hw _ m_1_18) (fun _ h9 => h9) rfl dX0_search_45 ?_
        refine lv_icmp_lt (tgt := 58) hx hb dX0_search_48 (by decide) (fun cbab_4 => ?_) (fun cbab_4 => ?_)
        · refine lv_aload_n hx hb dX0_search_58 rfl (lv_at hl 0 rfl) ?_
          refine va_get (D := (dC, dI)) (ci := 0) (v := .ref (ad 2)) (C := RX0) (T := TX0) (N := 13) hx hb hw in_X0 hown hK hP 0 rfl rfl 2 (by decide) (hw _ m_1_20) (fun _ h9 => h9) rfl dX0_search_59 ?_
          refine lv_iload_n hx hb dX0_search_62 rfl (lv_at hl 1 rfl) ?_
          refine va_iald hx hb hK hP 2 1 rfl rfl (vp_in_nI (by omega) (by decide)) dX0_search_63 ?_
          refine x_topi (y := fA n) (by rw [nI_clamp (by omega)]) ?_
          refine lv_iconst (v := 1) hx hb dX0_search_64 (by decide) ?_
          refine lv_icmp_le (tgt := 80) hx hb dX0_search_65 (by decide) (fun cbaba_5 => ?_) (fun cbaba_5 => ?_)
          · refine lv_aload_n hx hb dX0_search_80 rfl (lv_at hl 0 rfl) ?_
            refine lv_iload_n hx hb dX0_search_81 rfl (lv_at hl 1 rfl) ?_
            refine lv_iload_n hx hb dX0_search_82 rfl (lv_at hl 2 rfl) ?_
            refine lv_iload_n hx hb dX0_search_83 rfl (lv_at hl 3 rfl) ?_
            refine lv_iload hx hb dX0_search_84 (lv_at hl 4 rfl) ?_
            refine g_calli ⟨hx, hb, hml, hown, hw⟩ (hl2 H.size sv fC rs dk ds fL fl fh n d al be hre hrk hd hw1 hbd hO (by unfold gfi; rw [decide_eq_false_iff_not]; exact fun q => k_ltle cbaba_5 q)) (cwV 4 hw gv_X0_X0_least rfl rfl rfl (by decide +kernel) ⟨by show 2 * k + 1 + 1 ≤ 2 * (k + 1); omega, by show 8 + (8 + 11) + (56 * k + 28) ≤ 56 * (k + 1); omega⟩) hK hP hD hS hA (ci := 0) (q0 := 0) rfl rfl rfl hl.1 rfl (Nat.le_of_ble_eq_true rfl) dX0_search_86 ⟨Nat.zero_le _, Nat.zero_le _⟩ (fun rbabaa_6 un H locs hq hP hD hS => ?_)
            obtain ⟨fl3, fh3, hbd3, hok, rfl⟩ := hq
            have hP : va_P (dC, dI) vwCl (gw ad cz ci cj ((nI c0), fO, fA, fB, fT, sv, fC, rs, dk, ds, fL, fl3, fh3)) H := hP
            have hD : va_D Ar (gw ad cz ci cj ((nI c0), fO, fA, fB, fT, sv, fC, rs, dk, ds, fL, fl3, fh3)) := hD
            refine lv_istore (lv' := [(5, .int rbabaa_6), (0, .ref (ad 0)), (1, .int (nI n)), (2, .int al), (3, .int be), (4, .int (nI d))]) hx hb dX0_search_89 hl (by decide) rfl (fun ls hl => ?_)
            refine lv_iload hx hb dX0_search_91 (lv_at hl 0 rfl) ?_
            refine lv_iload_n hx hb dX0_search_93 rfl (lv_at hl 3 rfl) ?_
            refine lv_icmp_le (tgt := 105) hx hb dX0_search_94 (by decide) (fun cbabaa_7 => ?_) (fun cbabaa_7 => ?_)
            · refine lv_iload hx hb dX0_search_105 (lv_at hl 0 rfl) ?_
              refine lv_iload_n hx hb dX0_search_107 rfl (lv_at hl 4 rfl) ?_
              refine lv_icmp_ge (tgt := 119) hx hb dX0_search_108 (by decide) (fun cbabaaa_8 => ?_) (fun cbabaaa_8 => ?_)
              · refine lv_iload hx hb dX0_search_119 (lv_at hl 0 rfl) ?_
                exact W.iret (v := rbabaa_6) hx hb hr (fun t ht hW => ⟨⟨rbabaa_6, ((nI c0), fO, fA, fB, fT, sv, fC, rs, dk, ds, fL, fl3, fh3), rfl, (⟨_, _, hbd3, hok, rfl⟩), (by rw [ht]; exact hP), va_K.moved hW.alike hK, hD⟩, hS.F ht⟩) hS.2.2 dX0_search_121
              · have hbd3 := k_hi hbd3 hO (w_ok_hi hok hw1 (k_nil cbabaaa_8))
                refine lv_aload_n hx hb dX0_search_111 rfl (lv_at hl 1 rfl) ?_
                refine va_get (D := (dC, dI)) (ci := 0) (v := .ref (ad 8)) (C := RX0) (T := TX0) (N := 13) hx hb hw in_X0 hown hK hP 0 rfl rfl 12 (by decide) (hw _ m_1_30) (fun _ h9 => h9) rfl dX0_search_112 ?_
                refine lv_iload_n hx hb dX0_search_115 rfl (lv_at hl 2 rfl) ?_
                refine lv_iload hx hb dX0_search_116 (lv_at hl 0 rfl) ?_
                refine va_iast hx hb hK hP hD hS 8 1 rfl rfl (vp_in_nI (by omega) (by decide)) dX0_search_118 (fun H locs hP hD hS => ?_)
                rw [nI_clamp (by omega)] at hP hD
                have hP : va_P (dC, dI) vwCl (gw ad cz ci cj ((nI c0), fO, fA, fB, fT, sv, fC, rs, dk, ds, fL, fl3, (upd fh3 n rbabaa_6))) H := hP
                have hD : va_D Ar (gw ad cz ci cj ((nI c0), fO, fA, fB, fT, sv, fC, rs, dk, ds, fL, fl3, (upd fh3 n rbabaa_6))) := hD
                refine lv_iload hx hb dX0_search_119 (lv_at hl 0 rfl) ?_
                exact W.iret (v := rbabaa_6) hx hb hr (fun t ht hW => ⟨⟨rbabaa_6, ((nI c0), fO, fA, fB, fT, sv, fC, rs, dk, ds, fL, fl3, (upd fh3 n rbabaa_6)), rfl, (⟨_, _, hbd3, hok, rfl⟩), (by rw [ht]; exact hP), va_K.moved hW.alike hK, hD⟩, hS.F ht⟩) hS.2.2 dX0_search_121
            · have hbd3 := k_lo hbd3 hO (w_ok_lo hok hw1 (k_nil cbabaa_7))
              refine lv_aload_n hx hb dX0_search_97 rfl (lv_at hl 1 rfl) ?_
              refine va_get (D := (dC, dI)) (ci := 0) (v := .ref (ad 7)) (C := RX0) (T := TX0) (N := 13) hx hb hw in_X0 hown hK hP 0 rfl rfl 11 (by decide) (hw _ m_1_29) (fun _ h9 => h9) rfl dX0_search_98 ?_
              refine lv_iload_n hx hb dX0_search_101 rfl (lv_at hl 2 rfl) ?_
              refine lv_iload hx hb dX0_search_102 (lv_at hl 0 rfl) ?_
              refine va_iast hx hb hK hP hD hS 7 1 rfl rfl (vp_in_nI (by omega) (by decide)) dX0_search_104 (fun H locs hP hD hS => ?_)
              rw [nI_clamp (by omega)] at hP hD
              have hP : va_P (dC, dI) vwCl (gw ad cz ci cj ((nI c0), fO, fA, fB, fT, sv, fC, rs, dk, ds, fL, (upd fl3 n rbabaa_6), fh3)) H := hP
              have hD : va_D Ar (gw ad cz ci cj ((nI c0), fO, fA, fB, fT, sv, fC, rs, dk, ds, fL, (upd fl3 n rbabaa_6), fh3)) := hD
              refine lv_iload hx hb dX0_search_105 (lv_at hl 0 rfl) ?_
              refine lv_iload_n hx hb dX0_search_107 rfl (lv_at hl 4 rfl) ?_
              refine lv_icmp_ge (tgt := 119) hx hb dX0_search_108 (by decide) (fun cbabaab_8 => ?_) (fun cbabaab_8 => ?_)
              · refine lv_iload hx hb dX0_search_119 (lv_at hl 0 rfl) ?_
                exact W.iret (v := rbabaa_6) hx hb hr (fun t ht hW => ⟨⟨rbabaa_6, ((nI c0), fO, fA, fB, fT, sv, fC, rs, dk, ds, fL, (upd fl3 n rbabaa_6), fh3), rfl, (⟨_, _, hbd3, hok, rfl⟩), (by rw [ht]; exact hP), va_K.moved hW.alike hK, hD⟩, hS.F ht⟩) hS.2.2 dX0_search_121
              · have hbd3 := k_hi hbd3 hO (w_ok_hi hok hw1 (k_nil cbabaab_8))
                refine lv_aload_n hx hb dX0_search_111 rfl (lv_at hl 1 rfl) ?_
                refine va_get (D := (dC, dI)) (ci := 0) (v := .ref (ad 8)) (C := RX0) (T := TX0) (N := 13) hx hb hw in_X0 hown hK hP 0 rfl rfl 12 (by decide) (hw _ m_1_30) (fun _ h9 => h9) rfl dX0_search_112 ?_
                refine lv_iload_n hx hb dX0_search_115 rfl (lv_at hl 2 rfl) ?_
                refine lv_iload hx hb dX0_search_116 (lv_at hl 0 rfl) ?_
                refine va_iast hx hb hK hP hD hS 8 1 rfl rfl (vp_in_nI (by omega) (by decide)) dX0_search_118 (fun H locs hP hD hS => ?_)
                rw [nI_clamp (by omega)] at hP hD
                have hP : va_P (dC, dI) vwCl (gw ad cz ci cj ((nI c0), fO, fA, fB, fT, sv, fC, rs, dk, ds, fL, (upd fl3 n rbabaa_6), (upd fh3 n rbabaa_6))) H := hP
                have hD : va_D Ar (gw ad cz ci cj ((nI c0), fO, fA, fB, fT, sv, fC, rs, dk, ds, fL, (upd fl3 n rbabaa_6), (upd fh3 n rbabaa_6))) := hD
                refine lv_iload hx hb dX0_search_119 (lv_at hl 0 rfl) ?_
                exact W.iret (v := rbabaa_6) hx hb hr (fun t ht hW => ⟨⟨rbabaa_6, ((nI c0), fO, fA, fB, fT, sv, fC, rs, dk, ds, fL, (upd fl3 n rbabaa_6), (upd fh3 n rbabaa_6)), rfl, (⟨_, _, hbd3, hok, rfl⟩), (by rw [ht]; exact hP), va_K.moved hW.alike hK, hD⟩, hS.F ht⟩) hS.2.2 dX0_search_121
          · refine lv_aload_n hx hb dX0_search_68 rfl (lv_at hl 0 rfl) ?_
            refine lv_iload_n hx hb dX0_search_69 rfl (lv_at hl 1 rfl) ?_
            refine lv_iload_n hx hb dX0_search_70 rfl (lv_at hl 2 rfl) ?_
            refine lv_iload_n hx hb dX0_search_71 rfl (lv_at hl 3 rfl) ?_
            refine lv_iload hx hb dX0_search_72 (lv_at hl 4 rfl) ?_
            refine g_calli ⟨hx, hb, hml, hown, hw⟩ (hg2 H.size sv fC rs dk ds fL fl fh n d al be hre hrk hd hw1 hbd hO (by unfold gfi; rw [decide_eq_true_eq]; exact k_nle cbaba_5)) (cwV 4 hw gv_X0_X0_greatest rfl rfl rfl (by decide +kernel) ⟨by show 2 * k + 1 + 1 ≤ 2 * (k + 1); omega, by show 8 + (8 + 11) + (56 * k + 28) ≤ 56 * (k + 1); omega⟩) hK hP hD hS hA (ci := 0) (q0 := 0) rfl rfl rfl hl.1 rfl (Nat.le_of_ble_eq_true rfl) dX0_search_74 ⟨Nat.zero_le _, Nat.zero_le _⟩ (fun rbabab_6 un H locs hq hP hD hS => ?_)
            obtain ⟨fl3, fh3, hbd3, hok, rfl⟩ := hq
            have hP : va_P (dC, dI) vwCl (gw ad cz ci cj ((nI c0), fO, fA, fB, fT, sv, fC, rs, dk, ds, fL, fl3, fh3)) H := hP
            have hD : va_D Ar (gw ad cz ci cj ((nI c0), fO, fA, fB, fT, sv, fC, rs, dk, ds, fL, fl3, fh3)) := hD
            refine lv_goto (tgt := 89) hx hb dX0_search_77 (by decide) ?_
            refine lv_istore (lv' := [(5, .int rbabab_6), (0, .ref (ad 0)), (1, .int (nI n)), (2, .int al), (3, .int be), (4, .int (nI d))]) hx hb dX0_search_89 hl (by decide) rfl (fun ls hl => ?_)
            refine lv_iload hx hb dX0_search_91 (lv_at hl 0 rfl) ?_
            refine lv_iload_n hx hb dX0_search_93 rfl (lv_at hl 3 rfl) ?_
            refine lv_icmp_le (tgt := 105) hx hb dX0_search_94 (by decide) (fun cbabab_7 => ?_) (fun cbabab_7 => ?_)
            · refine lv_iload hx hb dX0_search_105 (lv_at hl 0 rfl) ?_
              refine lv_iload_n hx hb dX0_search_107 rfl (lv_at hl 4 rfl) ?_
              refine lv_icmp_ge (tgt := 119) hx hb dX0_search_108 (by decide) (fun cbababa_8 => ?_) (fun cbababa_8 => ?_)
              · refine lv_iload hx hb dX0_search_119 (lv_at hl 0 rfl) ?_
                exact W.iret (v := rbabab_6) hx hb hr (fun t ht hW => ⟨⟨rbabab_6, ((nI c0), fO, fA, fB, fT, sv, fC, rs, dk, ds, fL, fl3, fh3), rfl, (⟨_, _, hbd3, hok, rfl⟩), (by rw [ht]; exact hP), va_K.moved hW.alike hK, hD⟩, hS.F ht⟩) hS.2.2 dX0_search_121
              · have hbd3 := k_hi hbd3 hO (w_ok_hi hok hw1 (k_nil cbababa_8))
                refine lv_aload_n hx hb dX0_search_111 rfl (lv_at hl 1 rfl) ?_
                refine va_get (D := (dC, dI)) (ci := 0) (v := .ref (ad 8)) (C := RX0) (T := TX0) (N := 13) hx hb hw in_X0 hown hK hP 0 rfl rfl 12 (by decide) (hw _ m_1_30) (fun _ h9 => h9) rfl dX0_search_112 ?_
                refine lv_iload_n hx hb dX0_search_115 rfl (lv_at hl 2 rfl) ?_
                refine lv_iload hx hb dX0_search_116 (lv_at hl 0 rfl) ?_
                refine va_iast hx hb hK hP hD hS 8 1 rfl rfl (vp_in_nI (by omega) (by decide)) dX0_search_118 (fun H locs hP hD hS => ?_)
                rw [nI_clamp (by omega)] at hP hD
                have hP : va_P (dC, dI) vwCl (gw ad cz ci cj ((nI c0), fO, fA, fB, fT, sv, fC, rs, dk, ds, fL, fl3, (upd fh3 n rbabab_6))) H := hP
                have hD : va_D Ar (gw ad cz ci cj ((nI c0), fO, fA, fB, fT, sv, fC, rs, dk, ds, fL, fl3, (upd fh3 n rbabab_6))) := hD
                refine lv_iload hx hb dX0_search_119 (lv_at hl 0 rfl) ?_
                exact W.iret (v := rbabab_6) hx hb hr (fun t ht hW => ⟨⟨rbabab_6, ((nI c0), fO, fA, fB, fT, sv, fC, rs, dk, ds, fL, fl3, (upd fh3 n rbabab_6)), rfl, (⟨_, _, hbd3, hok, rfl⟩), (by rw [ht]; exact hP), va_K.moved hW.alike hK, hD⟩, hS.F ht⟩) hS.2.2 dX0_search_121
            · have hbd3 := k_lo hbd3 hO (w_ok_lo hok hw1 (k_nil cbabab_7))
              refine lv_aload_n hx hb dX0_search_97 rfl (lv_at hl 1 rfl) ?_
              refine va_get (D := (dC, dI)) (ci := 0) (v := .ref (ad 7)) (C := RX0) (T := TX0) (N := 13) hx hb hw in_X0 hown hK hP 0 rfl rfl 11 (by decide) (hw _ m_1_29) (fun _ h9 => h9) rfl dX0_search_98 ?_
              refine lv_iload_n hx hb dX0_search_101 rfl (lv_at hl 2 rfl) ?_
              refine lv_iload hx hb dX0_search_102 (lv_at hl 0 rfl) ?_
              refine va_iast hx hb hK hP hD hS 7 1 rfl rfl (vp_in_nI (by omega) (by decide)) dX0_search_104 (fun H locs hP hD hS => ?_)
              rw [nI_clamp (by omega)] at hP hD
              have hP : va_P (dC, dI) vwCl (gw ad cz ci cj ((nI c0), fO, fA, fB, fT, sv, fC, rs, dk, ds, fL, (upd fl3 n rbabab_6), fh3)) H := hP
              have hD : va_D Ar (gw ad cz ci cj ((nI c0), fO, fA, fB, fT, sv, fC, rs, dk, ds, fL, (upd fl3 n rbabab_6), fh3)) := hD
              refine lv_iload hx hb dX0_search_105 (lv_at hl 0 rfl) ?_
              refine lv_iload_n hx hb dX0_search_107 rfl (lv_at hl 4 rfl) ?_
              refine lv_icmp_ge (tgt := 119) hx hb dX0_search_108 (by decide) (fun cbababb_8 => ?_) (fun cbababb_8 => ?_)
              · refine lv_iload hx hb dX0_search_119 (lv_at hl 0 rfl) ?_
                exact W.iret (v := rbabab_6) hx hb hr (fun t ht hW => ⟨⟨rbabab_6, ((nI c0), fO, fA, fB, fT, sv, fC, rs, dk, ds, fL, (upd fl3 n rbabab_6), fh3), rfl, (⟨_, _, hbd3, hok, rfl⟩), (by rw [ht]; exact hP), va_K.moved hW.alike hK, hD⟩, hS.F ht⟩) hS.2.2 dX0_search_121
              · have hbd3 := k_hi hbd3 hO (w_ok_hi hok hw1 (k_nil cbababb_8))
                refine lv_aload_n hx hb dX0_search_111 rfl (lv_at hl 1 rfl) ?_
                refine va_get (D := (dC, dI)) (ci := 0) (v := .ref (ad 8)) (C := RX0) (T := TX0) (N := 13) hx hb hw in_X0 hown hK hP 0 rfl rfl 12 (by decide) (hw _ m_1_30) (fun _ h9 => h9) rfl dX0_search_112 ?_
                refine lv_iload_n hx hb dX0_search_115 rfl (lv_at hl 2 rfl) ?_
                refine lv_iload hx hb dX0_search_116 (lv_at hl 0 rfl) ?_
                refine va_iast hx hb hK hP hD hS 8 1 rfl rfl (vp_in_nI (by omega) (by decide)) dX0_search_118 (fun H locs hP hD hS => ?_)
                rw [nI_clamp (by omega)] at hP hD
                have hP : va_P (dC, dI) vwCl (gw ad cz ci cj ((nI c0), fO, fA, fB, fT, sv, fC, rs, dk, ds, fL, (upd fl3 n rbabab_6), (upd fh3 n rbabab_6))) H := hP
                have hD : va_D Ar (gw ad cz ci cj ((nI c0), fO, fA, fB, fT, sv, fC, rs, dk, ds, fL, (upd fl3 n rbabab_6), (upd fh3 n rbabab_6))) := hD
                refine lv_iload hx hb dX0_search_119 (lv_at hl 0 rfl) ?_
                exact W.iret (v := rbabab_6) hx hb hr (fun t ht hW => ⟨⟨rbabab_6, ((nI c0), fO, fA, fB, fT, sv, fC, rs, dk, ds, fL, (upd fl3 n rbabab_6), (upd fh3 n rbabab_6)), rfl, (⟨_, _, hbd3, hok, rfl⟩), (by rw [ht]; exact hP), va_K.moved hW.alike hK, hD⟩, hS.F ht⟩) hS.2.2 dX0_search_121
        · exact absurd hdl cbab_4
    · have e2 := k_nit cb_2
      refine lv_aload_n hx hb dX0_search_25 rfl (lv_at hl 0 rfl) ?_
      refine va_get (D := (dC, dI)) (ci := 0) (v := .ref (ad 7)) (C := RX0) (T := TX0) (N := 13) hx hb hw in_X0 hown hK hP 0 rfl rfl 11 (by decide) (hw _ m_1_29) (fun _ h9 => h9) rfl dX0_search_26 ?_
      refine lv_iload_n hx hb dX0_search_29 rfl (lv_at hl 1 rfl) ?_
      refine va_iald hx hb hK hP 7 1 rfl rfl (vp_in_nI (by omega) (by decide)) dX0_search_30 ?_
      refine x_topi (y := fl n) (by rw [nI_clamp (by omega)]) ?_
      exact W.iret (v := (fl n)) hx hb hr (fun t ht hW => ⟨⟨(fl n), ((nI c0), fO, fA, fB, fT, sv, fC, rs, dk, ds, fL, fl, fh), rfl, (⟨fl, fh, hbd, ⟨fun q => (by omega), fun _ q => (by omega), fun _ => ⟨e2, b1⟩⟩, rfl⟩), (by rw [ht]; exact hP), va_K.moved hW.alike hK, hD⟩, hS.F ht⟩) hS.2.2 dX0_search_31
theorem c_search (l : Launch) (dC : Nat → ClassId) (dI : Nat → Nat → Nat) (ad : Nat → Nat) (cz ci cj : ClassId) (c0 : Nat) (fO fA fB fT : Nat → Int32) (hg : g_ok c0 fO fA fB fT) (hnd : g_nd c0 fO fA fB fT) : ∀ k, M_srch l dC dI ad cz ci cj c0 fO fA fB fT k
  | 0 => fun _ _ _ _ _ _ _ _ _ _ _ _ _ _ h => absurd h (Nat.not_lt_zero _)
  | k + 1 => c_search1 l dC dI ad cz ci cj c0 fO fA fB fT hg hnd k (c_greatest l dC dI ad cz ci cj c0 fO fA fB fT hg hnd k (c_search l dC dI ad cz ci cj c0 fO fA fB fT hg hnd k)) (c_least l dC dI ad cz ci cj c0 fO fA fB fT hg hnd k (c_search l dC dI ad cz ci cj c0 fO fA fB fT hg hnd k))
