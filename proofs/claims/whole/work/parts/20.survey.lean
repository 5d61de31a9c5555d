/-! Lengths, bounds, the survey (by tool/lens.py). -/
set_option maxHeartbeats 4000000 in
set_option maxRecDepth 100000 in
theorem lp_len2 {p : Program} {l : Launch} {e : Env} {R : Room} {s : State} {m : MethodId} {args : Array Value} {below : List Frame} {meth : Method} {c : Code} {Q : State → Prop} {dC : Nat → ClassId} {dI : Nat → Nat → Nat} {ad : Nat → Nat} {cz ci cj : ClassId} {Ar : Nat → Prop} (hx : p.tables.exec = Jvm.exec) (hb : c.code = cX0_findLengths) (hml : c.maxLocals = 8) (hown : s.vm.findClass "GameGraph" = some m.cls) (hw : ∀ w ∈ wAll, w.before args s = true) (hK : va_K (dC, dI) vwCl (gty cz ci cj) s) (hA : ∀ q, s.heap.size ≤ q → Ar q) (hR1 : 1 ≤ R.frames) (hR2 : 22 ≤ R.locals) (fO fA fB fT : Nat → Int32) (sv : Int32) (fC : Nat → Int64) (rs : Int64) (dk ds : Int32) (fl fh : Nat → Int32) (c0 : Nat) (hg : g_ok c0 fO fA fB fT) (hrs : ∀ m, b_t rs m = true ↔ gre c0 fO fA fB fT m) (hC : ∀ a, a < c0 → ∀ m, b_t (fC a) m = true ↔ gto c0 fO fA fB fT a m) (hac : s_ac c0 (gmv fO fA fB) (gtg fT)) (rd : Nat) (bs : Int64) (hrd : rd < c0) (hbs : ∀ m, b_t bs m = true ↔ gre c0 fO fA fB fT m ∧ glen c0 fO fA fB fT m < rd)
    (kx : ∀ (set : Int64) (fL2 : Nat → Int32), (g_ls (gre c0 fO fA fB fT) (glen c0 fO fA fB fT) rd c0 set fL2) → ∀ (H : Heap) (locs : List Loc), va_P (dC, dI) vwCl (gw ad cz ci cj ((nI c0), fO, fA, fB, fT, sv, fC, rs, dk, ds, fL2, fl, fh)) H → va_D Ar (gw ad cz ci cj ((nI c0), fO, fA, fB, fT, sv, fC, rs, dk, ds, fL2, fl, fh)) → va_S Ar s.heap H locs → ∀ (ls : Array Slot), lv_has ls 8 [(0, .ref (ad 0)), (1, .long set), (3, .int (nI rd))] → W p l e R s m args below meth c H locs 0 0 Q (F0 m 101 ls [])) :
    ∀ (fuel : Nat) (n : Nat) (set : Int64) (fL2 : Nat → Int32), c0 + 1 ≤ n + fuel → n ≤ c0 → (g_ls (gre c0 fO fA fB fT) (glen c0 fO fA fB fT) rd n set fL2) → ∀ (H : Heap) (locs : List Loc), va_P (dC, dI) vwCl (gw ad cz ci cj ((nI c0), fO, fA, fB, fT, sv, fC, rs, dk, ds, fL2, fl, fh)) H → va_D Ar (gw ad cz ci cj ((nI c0), fO, fA, fB, fT, sv, fC, rs, dk, ds, fL2, fl, fh)) → va_S Ar s.heap H locs → ∀ (ls : Array Slot), lv_has ls 8 [(0, .ref (ad 0)), (1, .long set), (3, .int (nI rd)), (4, .long bs), (6, .int (nI n))] → W p l e R s m args below meth c H locs 0 0 Q (F0 m 18 ls []) := by
  intro fuel
  induction fuel with
  | zero => intro n set fL2 hfu hn hI; exact absurd hfu (by omega)
  | succ fuel ih =>
    intro n set fL2 hfu hn hI H locs hP hD hS ls hl
    have h60 := hg.2.1
    refine lv_iload hx hb dX0_findLengths_18 (lv_at hl 4 rfl) ?_
    refine lv_aload_n hx hb dX0_findLengths_20 rfl (lv_at hl 0 rfl) ?_
    refine va_get (D := (dC, dI)) (ci := 0) (v := .int (nI c0)) (C := RX0) (T := TX0) (N := 13) hx hb hw in_X0 hown hK hP 0 rfl rfl 0 (by decide) (hw _ m_1_18) (fun _ h9 => h9) rfl dX0_findLengths_21 ?_
    refine lv_icmp_ge (tgt := 101) hx hb dX0_findLengths_24 (by decide) (fun c_1 => ?_) (fun c_1 => ?_)
    · exact kx set fL2 (by rw [show n = c0 from (k_eq hn c_1 (by omega)).symm] at hI; exact hI) _ _ hP hD hS _ (lv_sub hl [0, 1, 2] rfl)
    · have hlt : n < c0 := k_lt c_1 (by omega)
      refine lv_aload_n hx hb dX0_findLengths_27 rfl (lv_at hl 0 rfl) ?_
      refine va_get (D := (dC, dI)) (ci := 0) (v := .long rs) (C := RX0) (T := TX0) (N := 13) hx hb hw in_X0 hown hK hP 0 rfl rfl 7 (by decide) (hw _ m_1_25) (fun _ h9 => h9) rfl dX0_findLengths_28 ?_
      refine lv_iload hx hb dX0_findLengths_31 (lv_at hl 4 rfl) ?_
      refine g_calls ⟨hx, hb, hml, hown, hw⟩ (c_X0_contains l rs n (by omega)) (va_cwS 2 hw gs_X0_X0_contains rfl rfl rfl (by decide +kernel) ⟨Nat.le_trans (Nat.le_of_ble_eq_true rfl) hR1, Nat.le_trans (Nat.le_of_ble_eq_true rfl) hR2⟩) hP hS rfl hl.1 rfl (Nat.le_of_ble_eq_true rfl) dX0_findLengths_33 ⟨Nat.zero_le _, Nat.zero_le _⟩ (fun rb_2 H locs hq hP hS => ?_)
      have hP : va_P (dC, dI) vwCl (gw ad cz ci cj ((nI c0), fO, fA, fB, fT, sv, fC, rs, dk, ds, fL2, fl, fh)) H := hP
      have hD : va_D Ar (gw ad cz ci cj ((nI c0), fO, fA, fB, fT, sv, fC, rs, dk, ds, fL2, fl, fh)) := hD
      refine lv_if_eq (tgt := 53) hx hb dX0_findLengths_36 (by decide) (fun cb_3 => ?_) (fun cb_3 => ?_)
      · have hre : ¬ gre c0 fO fA fB fT n := fun h => by have h1 := (hrs n).mpr h; rw [k_b0 hq cb_3] at h1; cases h1
        refine lv_iconst (v := 0) hx hb dX0_findLengths_53 (by decide) ?_
        refine lv_istore (lv' := [(7, .int 0), (0, .ref (ad 0)), (1, .long set), (3, .int (nI rd)), (4, .long bs), (6, .int (nI n))]) hx hb dX0_findLengths_54 hl (by decide) rfl (fun ls hl => ?_)
        refine lv_iload hx hb dX0_findLengths_56 (lv_at hl 0 rfl) ?_
        refine lv_if_eq (tgt := 95) hx hb dX0_findLengths_58 (by decide) (fun cba_4 => ?_) (fun cba_4 => ?_)
        · refine lv_iinc (v := (nI (n + 1))) (lv' := [(6, .int (nI (n + 1))), (7, .int 0), (0, .ref (ad 0)), (1, .long set), (3, .int (nI rd)), (4, .long bs)]) hx hb dX0_findLengths_95 hl (k := 5) rfl (nI_1 n) (by decide) rfl (fun ls hl => ?_)
          refine lv_goto (tgt := 18) hx hb dX0_findLengths_98 (by decide) ?_
          exact ih (n + 1) set fL2 (by omega) (by omega) (g_ls_no hI (fun h => absurd h hre)) _ _ hP hD hS _ (lv_sub hl [2, 3, 4, 5, 0] rfl)
        · exact absurd rfl cba_4
      · have hre := (hrs n).mp (k_b1 hq cb_3)
        refine lv_lload hx hb dX0_findLengths_39 (lv_at hl 3 rfl) ?_
        refine lv_iload hx hb dX0_findLengths_41 (lv_at hl 4 rfl) ?_
        refine g_calls ⟨hx, hb, hml, hown, hw⟩ (c_X0_contains l bs n (by omega)) (va_cwS 2 hw gs_X0_X0_contains rfl rfl rfl (by decide +kernel) ⟨Nat.le_trans (Nat.le_of_ble_eq_true rfl) hR1, Nat.le_trans (Nat.le_of_ble_eq_true rfl) hR2⟩) hP hS rfl hl.1 rfl (Nat.le_of_ble_eq_true rfl) dX0_findLengths_43 ⟨Nat.zero_le _, Nat.zero_le _⟩ (fun rbb_4 H locs hq hP hS => ?_)
        have hP : va_P (dC, dI) vwCl (gw ad cz ci cj ((nI c0), fO, fA, fB, fT, sv, fC, rs, dk, ds, fL2, fl, fh)) H := hP
        have hD : va_D Ar (gw ad cz ci cj ((nI c0), fO, fA, fB, fT, sv, fC, rs, dk, ds, fL2, fl, fh)) := hD
        refine lv_if_ne (tgt := 53) hx hb dX0_findLengths_46 (by decide) (fun cbb_5 => ?_) (fun cbb_5 => ?_)
        · have hb1 := (hbs n).mp (k_b1 hq cbb_5)
          refine lv_iconst (v := 0) hx hb dX0_findLengths_53 (by decide) ?_
          refine lv_istore (lv' := [(7, .int 0), (0, .ref (ad 0)), (1, .long set), (3, .int (nI rd)), (4, .long bs), (6, .int (nI n))]) hx hb dX0_findLengths_54 hl (by decide) rfl (fun ls hl => ?_)
          refine lv_iload hx hb dX0_findLengths_56 (lv_at hl 0 rfl) ?_
          refine lv_if_eq (tgt := 95) hx hb dX0_findLengths_58 (by decide) (fun cbba_6 => ?_) (fun cbba_6 => ?_)
          · refine lv_iinc (v := (nI (n + 1))) (lv' := [(6, .int (nI (n + 1))), (7, .int 0), (0, .ref (ad 0)), (1, .long set), (3, .int (nI rd)), (4, .long bs)]) hx hb dX0_findLengths_95 hl (k := 5) rfl (nI_1 n) (by decide) rfl (fun ls hl => ?_)
            refine lv_goto (tgt := 18) hx hb dX0_findLengths_98 (by decide) ?_
            exact ih (n + 1) set fL2 (by omega) (by omega) (g_ls_no hI (fun _ => by omega)) _ _ hP hD hS _ (lv_sub hl [2, 3, 4, 5, 0] rfl)
          · exact absurd rfl cbba_6
        · have hb0 : ¬ glen c0 fO fA fB fT n < rd := fun h => by have h1 := (hbs n).mpr ⟨hre, h⟩; rw [k_b0 hq cbb_5] at h1; cases h1
          refine lv_iconst (v := 1) hx hb dX0_findLengths_49 (by decide) ?_
          refine lv_goto (tgt := 54) hx hb dX0_findLengths_50 (by decide) ?_
          refine lv_istore (lv' := [(7, .int 1), (0, .ref (ad 0)), (1, .long set), (3, .int (nI rd)), (4, .long bs), (6, .int (nI n))]) hx hb dX0_findLengths_54 hl (by decide) rfl (fun ls hl => ?_)
          refine lv_iload hx hb dX0_findLengths_56 (lv_at hl 0 rfl) ?_
          refine lv_if_eq (tgt := 95) hx hb dX0_findLengths_58 (by decide) (fun cbbb_6 => ?_) (fun cbbb_6 => ?_)
          · exact absurd cbbb_6 (by decide)
          · have hsub := k_sub (hC n hlt) hbs (fun m hm => s_re_to (g_sok hg) hre hm)
            have hlen : _ ↔ glen c0 fO fA fB fT n ≤ rd := s_len_iff (g_sok hg) hac hre (r := rd)
            refine lv_aload_n hx hb dX0_findLengths_61 rfl (lv_at hl 1 rfl) ?_
            refine va_get (D := (dC, dI)) (ci := 0) (v := .ref (ad 5)) (C := RX0) (T := TX0) (N := 13) hx hb hw in_X0 hown hK hP 0 rfl rfl 6 (by decide) (hw _ m_1_24) (fun _ h9 => h9) rfl dX0_findLengths_62 ?_
            refine lv_iload hx hb dX0_findLengths_65 (lv_at hl 5 rfl) ?_
            refine va_lald hx hb hK hP 5 2 rfl rfl (vp_in_nI (by omega) (by decide)) dX0_findLengths_67 ?_
            refine x_topl (y := fC n) (by rw [nI_clamp (by omega)]) ?_
            refine lv_lload hx hb dX0_findLengths_68 (lv_at hl 4 rfl) ?_
            refine lv_ldc2 hx hb hown (hw _ m_3_18) dX0_findLengths_70 ?_
            refine lv_lxor hx hb dX0_findLengths_73 ?_
            refine lv_land hx hb dX0_findLengths_74 ?_
            refine lv_lconst (v := 0) hx hb dX0_findLengths_75 (by decide) ?_
            refine W.lcmp hx hb dX0_findLengths_76 ?_
            refine lv_if_ne (tgt := 95) hx hb dX0_findLengths_77 (by decide) (fun cbbbb_7 => ?_) (fun cbbbb_7 => ?_)
            · refine lv_iinc (v := (nI (n + 1))) (lv' := [(6, .int (nI (n + 1))), (7, .int 1), (0, .ref (ad 0)), (1, .long set), (3, .int (nI rd)), (4, .long bs)]) hx hb dX0_findLengths_95 hl (k := 5) rfl (nI_1 n) (by decide) rfl (fun ls hl => ?_)
              refine lv_goto (tgt := 18) hx hb dX0_findLengths_98 (by decide) ?_
              exact ih (n + 1) set fL2 (by omega) (by omega) (g_ls_no hI (fun _ e => cbbbb_7 ((b_cmp0 _).mpr (hsub.mpr (hlen.mpr (Nat.le_of_eq e)))))) _ _ hP hD hS _ (lv_sub hl [2, 3, 4, 5, 0] rfl)
            · have hle := hlen.mp (hsub.mp ((b_cmp0 _).mp cbbbb_7))
              refine lv_aload_n hx hb dX0_findLengths_80 rfl (lv_at hl 1 rfl) ?_
              refine va_get (D := (dC, dI)) (ci := 0) (v := .ref (ad 6)) (C := RX0) (T := TX0) (N := 13) hx hb hw in_X0 hown hK hP 0 rfl rfl 10 (by decide) (hw _ m_1_28) (fun _ h9 => h9) rfl dX0_findLengths_81 ?_
              refine lv_iload hx hb dX0_findLengths_84 (lv_at hl 5 rfl) ?_
              refine lv_iload_n hx hb dX0_findLengths_86 rfl (lv_at hl 3 rfl) ?_
              refine va_iast hx hb hK hP hD hS 6 1 rfl rfl (vp_in_nI (by omega) (by decide)) dX0_findLengths_87 (fun H locs hP hD hS => ?_)
              rw [nI_clamp (by omega)] at hP hD
              have hP : va_P (dC, dI) vwCl (gw ad cz ci cj ((nI c0), fO, fA, fB, fT, sv, fC, rs, dk, ds, (upd fL2 n (nI rd)), fl, fh)) H := hP
              have hD : va_D Ar (gw ad cz ci cj ((nI c0), fO, fA, fB, fT, sv, fC, rs, dk, ds, (upd fL2 n (nI rd)), fl, fh)) := hD
              refine lv_lload_n hx hb dX0_findLengths_88 rfl (lv_at hl 2 rfl) ?_
              refine lv_lconst (v := 1) hx hb dX0_findLengths_89 (by decide) ?_
              refine lv_iload hx hb dX0_findLengths_90 (lv_at hl 5 rfl) ?_
              refine lv_lshl hx hb dX0_findLengths_92 rfl ?_
              refine lv_lor hx hb dX0_findLengths_93 ?_
              refine lv_lstore_n (lv' := [(1, .long (set ||| (1 <<< ((nI n).toInt64 &&& 63)))), (7, .int 1), (0, .ref (ad 0)), (3, .int (nI rd)), (4, .long bs), (6, .int (nI n))]) hx hb dX0_findLengths_94 rfl hl (by decide) rfl (fun ls hl => ?_)
              refine lv_iinc (v := (nI (n + 1))) (lv' := [(6, .int (nI (n + 1))), (1, .long (set ||| (1 <<< ((nI n).toInt64 &&& 63)))), (7, .int 1), (0, .ref (ad 0)), (3, .int (nI rd)), (4, .long bs)]) hx hb dX0_findLengths_95 hl (k := 5) rfl (nI_1 n) (by decide) rfl (fun ls hl => ?_)
              refine lv_goto (tgt := 18) hx hb dX0_findLengths_98 (by decide) ?_
              exact ih (n + 1) (set ||| (1 <<< ((nI n).toInt64 &&& 63))) (upd fL2 n (nI rd)) (by omega) (by omega) (g_ls_yes hI (by omega) hre (by omega)) _ _ hP hD hS _ (lv_sub hl [3, 1, 4, 5, 0] rfl)
set_option maxHeartbeats 4000000 in
set_option maxRecDepth 100000 in
theorem lp_len1 {p : Program} {l : Launch} {e : Env} {R : Room} {s : State} {m : MethodId} {args : Array Value} {below : List Frame} {meth : Method} {c : Code} {Q : State → Prop} {dC : Nat → ClassId} {dI : Nat → Nat → Nat} {ad : Nat → Nat} {cz ci cj : ClassId} {Ar : Nat → Prop} (hx : p.tables.exec = Jvm.exec) (hb : c.code = cX0_findLengths) (hml : c.maxLocals = 8) (hown : s.vm.findClass "GameGraph" = some m.cls) (hw : ∀ w ∈ wAll, w.before args s = true) (hK : va_K (dC, dI) vwCl (gty cz ci cj) s) (hA : ∀ q, s.heap.size ≤ q → Ar q) (hR1 : 1 ≤ R.frames) (hR2 : 22 ≤ R.locals) (fO fA fB fT : Nat → Int32) (sv : Int32) (fC : Nat → Int64) (rs : Int64) (dk ds : Int32) (fl fh : Nat → Int32) (c0 : Nat) (hg : g_ok c0 fO fA fB fT) (hrs : ∀ m, b_t rs m = true ↔ gre c0 fO fA fB fT m) (hC : ∀ a, a < c0 → ∀ m, b_t (fC a) m = true ↔ gto c0 fO fA fB fT a m) (hac : s_ac c0 (gmv fO fA fB) (gtg fT))
    (kx : ∀ (fL2 : Nat → Int32), (∀ m, gre c0 fO fA fB fT m → fL2 m = nI (glen c0 fO fA fB fT m)) → ∀ (H : Heap) (locs : List Loc), va_P (dC, dI) vwCl (gw ad cz ci cj ((nI c0), fO, fA, fB, fT, sv, fC, rs, dk, ds, fL2, fl, fh)) H → va_D Ar (gw ad cz ci cj ((nI c0), fO, fA, fB, fT, sv, fC, rs, dk, ds, fL2, fl, fh)) → va_S Ar s.heap H locs → ∀ (ls : Array Slot), lv_has ls 8 [(0, .ref (ad 0))] → W p l e R s m args below meth c H locs 0 0 Q (F0 m 107 ls [])) :
    ∀ (fuel : Nat) (rd : Nat) (set : Int64) (fL2 : Nat → Int32), c0 + 1 ≤ rd + fuel → rd ≤ c0 → (g_ls (gre c0 fO fA fB fT) (glen c0 fO fA fB fT) rd 0 set fL2) → ∀ (H : Heap) (locs : List Loc), va_P (dC, dI) vwCl (gw ad cz ci cj ((nI c0), fO, fA, fB, fT, sv, fC, rs, dk, ds, fL2, fl, fh)) H → va_D Ar (gw ad cz ci cj ((nI c0), fO, fA, fB, fT, sv, fC, rs, dk, ds, fL2, fl, fh)) → va_S Ar s.heap H locs → ∀ (ls : Array Slot), lv_has ls 8 [(0, .ref (ad 0)), (1, .long set), (3, .int (nI rd))] → W p l e R s m args below meth c H locs 0 0 Q (F0 m 4 ls []) := by
  intro fuel
  induction fuel with
  | zero => intro rd set fL2 hfu hrd hI; exact absurd hfu (by omega)
  | succ fuel ih =>
    intro rd set fL2 hfu hrd hI H locs hP hD hS ls hl
    have h60 := hg.2.1
    refine lv_iload_n hx hb dX0_findLengths_4 rfl (lv_at hl 2 rfl) ?_
    refine lv_aload_n hx hb dX0_findLengths_5 rfl (lv_at hl 0 rfl) ?_
    refine va_get (D := (dC, dI)) (ci := 0) (v := .int (nI c0)) (C := RX0) (T := TX0) (N := 13) hx hb hw in_X0 hown hK hP 0 rfl rfl 0 (by decide) (hw _ m_1_18) (fun _ h9 => h9) rfl dX0_findLengths_6 ?_
    refine lv_icmp_ge (tgt := 107) hx hb dX0_findLengths_9 (by decide) (fun c_1 => ?_) (fun c_1 => ?_)
    · exact kx fL2 (fun m hm => hI.2 m hm (by rw [if_neg (Nat.not_lt_zero _), show rd = c0 from (k_eq hrd c_1 (by omega)).symm]; exact s_len_c (g_sok hg) hac hm)) _ _ hP hD hS _ (lv_sub hl [0] rfl)
    · have hlt : rd < c0 := k_lt c_1 (by omega)
      refine lv_lload_n hx hb dX0_findLengths_12 rfl (lv_at hl 1 rfl) ?_
      refine lv_lstore (lv' := [(4, .long set), (0, .ref (ad 0)), (1, .long set), (3, .int (nI rd))]) hx hb dX0_findLengths_13 hl (by decide) rfl (fun ls hl => ?_)
      refine lv_iconst (v := 0) hx hb dX0_findLengths_15 (by decide) ?_
      refine x_topi (y := nI 0) (rfl) ?_
      refine lv_istore (lv' := [(6, .int (nI 0)), (4, .long set), (0, .ref (ad 0)), (1, .long set), (3, .int (nI rd))]) hx hb dX0_findLengths_16 hl (by decide) rfl (fun ls hl => ?_)
      refine lp_len2 (dC := dC) (dI := dI) (ad := ad) (cz := cz) (ci := ci) (cj := cj) (Ar := Ar) hx hb hml hown hw hK hA (Nat.le_trans (Nat.le_of_ble_eq_true rfl) hR1) (Nat.le_trans (Nat.le_of_ble_eq_true rfl) hR2) fO fA fB fT sv fC rs dk ds fl fh c0 hg hrs hC hac rd set hlt (fun m => by have := hI.1 m; rwa [if_neg (Nat.not_lt_zero _)] at this) ?_ (c0 + 1) 0 set fL2 (by omega) (by omega) hI _ _ hP hD hS _ (lv_sub hl [2, 3, 4, 1, 0] rfl)
      intro set fL2 hI H locs hP hD hS ls hl
      refine lv_iinc (v := (nI (rd + 1))) (lv' := [(3, .int (nI (rd + 1))), (0, .ref (ad 0)), (1, .long set)]) hx hb dX0_findLengths_101 hl (k := 2) rfl (nI_1 rd) (by decide) rfl (fun ls hl => ?_)
      refine lv_goto (tgt := 4) hx hb dX0_findLengths_104 (by decide) ?_
      exact ih (rd + 1) set fL2 (by omega) (by omega) (g_ls_next (by assumption) (fun m hm => s_re_lt (g_sok hg) hm)) _ _ hP hD hS _ (lv_sub hl [1, 2, 0] rfl)
set_option maxHeartbeats 4000000 in
set_option maxRecDepth 100000 in
theorem c_X0_findLengths (l : Launch) (dC : Nat → ClassId) (dI : Nat → Nat → Nat) (ad : Nat → Nat) (cz ci cj : ClassId) (sz : Nat) (cnt : Int32) (fO : Nat → Int32) (fA : Nat → Int32) (fB : Nat → Int32) (fT : Nat → Int32) (sv : Int32) (fC : Nat → Int64) (rs : Int64) (dk : Int32) (ds : Int32) (fL : Nat → Int32) (fl : Nat → Int32) (fh : Nat → Int32)  (c0 : Nat) (hg : g_ok c0 fO fA fB fT) (hrs : ∀ m, b_t rs m = true ↔ gre c0 fO fA fB fT m) (hC : ∀ a, a < c0 → ∀ m, b_t (fC a) m = true ↔ gto c0 fO fA fB fT a m) (hac : s_ac c0 (gmv fO fA fB) (gtg fT)) : Met l yX0_findLengths wX0_findLengths ({ frames := 1, cells := 0, slots := 0, locals := 22 }) (va_Pc [.ref (ad 0)] (g_Pre (dC, dI) vwCl (gty cz ci cj) (gw ad cz ci cj ((nI c0), fO, fA, fB, fT, sv, fC, rs, dk, ds, fL, fl, fh)) sz)) (va_Qv (fun (u : GS) => ∃ fL2 : Nat → Int32, (∀ m, gre c0 fO fA fB fT m → fL2 m = nI (glen c0 fO fA fB fT m)) ∧ u = (nI c0, fO, fA, fB, fT, sv, fC, rs, dk, ds, fL2, fl, fh)) (g_At (dC, dI) vwCl (gty cz ci cj) (va_A (gw ad cz ci cj ((nI c0), fO, fA, fB, fT, sv, fC, rs, dk, ds, fL, fl, fh)) sz) (gw ad cz ci cj)) (va_A (gw ad cz ci cj ((nI c0), fO, fA, fB, fT, sv, fC, rs, dk, ds, fL, fl, fh)) sz)) 0 0 (va_A (gw ad cz ci cj ((nI c0), fO, fA, fB, fT, sv, fC, rs, dk, ds, fL, fl, fh)) sz) := by
  refine Met.ofW (cc := cX0_findLengths) (maxL := 8) (ret := none) (by decide) rfl ?_
  intro p e s m args below meth c s₁ Bd hml hv
  obtain ⟨rfl, hsz, hP, hK, hD0⟩ := hv
  have hx := Bd.exec
  have hb := Bd.bytes
  have hr := Bd.returns
  have hts := atoms_spec (ws := wX0_findLengths) Bd.pre
  have hw : ∀ w ∈ wAll, w.before _ s = true := fun w h => hts w (List.mem_cons_of_mem _ h)
  have hown : s.vm.findClass "GameGraph" = some m.cls := findClass_of_methodNamed Bd.named
  have hlocks := Bd.notSynchronized
  subst hsz
  have hD := hD0.self (sz := s.heap.size)
  generalize hAe : va_A (gw ad cz ci cj ((nI c0), fO, fA, fB, fT, sv, fC, rs, dk, ds, fL, fl, fh)) s.heap.size = Ar at hD ⊢
  have hA : ∀ q : Nat, s.heap.size ≤ q → Ar q := fun q h => by rw [← hAe]; exact Or.inr h
  obtain ⟨H, hH⟩ : ∃ H : Heap, H = s.heap := ⟨_, rfl⟩
  have hS : va_S Ar s.heap H [] := by rw [hH]; exact va_S.rf
  have hP : va_P (dC, dI) vwCl (gw ad cz ci cj ((nI c0), fO, fA, fB, fT, sv, fC, rs, dk, ds, fL, fl, fh)) H := by rw [hH]; exact hP
  rw [← hH]
  have hl := lv_entry ([.ref (ad 0)]) (n := 8) (Nat.le_of_ble_eq_true rfl)
  rw [lg_entry_eq]
  generalize (lg_sl ([.ref (ad 0)]) ++ List.replicate (8 - (lg_sl ([.ref (ad 0)])).length) Slot.unset).toArray = ls at hl ⊢
  have hl : lv_has ls 8 [(0, .ref (ad 0))] := hl
  refine lv_lconst (v := 0) hx hb dX0_findLengths_0 (by decide) ?_
  refine lv_lstore_n (lv' := [(1, .long 0), (0, .ref (ad 0))]) hx hb dX0_findLengths_1 rfl hl (by decide) rfl (fun ls hl => ?_)
  refine lv_iconst (v := 0) hx hb dX0_findLengths_2 (by decide) ?_
  refine x_topi (y := nI 0) (rfl) ?_
  refine lv_istore_n (lv' := [(3, .int (nI 0)), (1, .long 0), (0, .ref (ad 0))]) hx hb dX0_findLengths_3 rfl hl (by decide) rfl (fun ls hl => ?_)
  refine lp_len1 (dC := dC) (dI := dI) (ad := ad) (cz := cz) (ci := ci) (cj := cj) (Ar := Ar) hx hb hml hown hw hK hA (Nat.le_of_ble_eq_true rfl) (Nat.le_of_ble_eq_true rfl) fO fA fB fT sv fC rs dk ds fl fh c0 hg hrs hC hac ?_ (c0 + 1) 0 0 fL (by omega) (by omega) (⟨fun m => by rw [b_t_0, if_neg (Nat.not_lt_zero _)]; exact ⟨fun h => (by cases h), fun ⟨_, h⟩ => absurd h (Nat.not_lt_zero _)⟩, fun m _ h => by rw [if_neg (Nat.not_lt_zero _)] at h; exact absurd h (Nat.not_lt_zero _)⟩) _ _ hP hD hS _ (lv_sub hl [2, 1, 0] rfl)
  intro fL2 hI H locs hP hD hS ls hl
  exact W.vret hx hb hr (fun t ht hW => ⟨⟨((nI c0), fO, fA, fB, fT, sv, fC, rs, dk, ds, fL2, fl, fh), rfl, (⟨fL2, hI, rfl⟩), (by rw [ht]; exact hP), va_K.moved hW.alike hK, hD⟩, hS.F ht⟩) hS.2.2 dX0_findLengths_107
theorem k_bv {fl fh a b : Nat → Int32} {i : Nat} {x y : Int32} (hI : ∀ k, k < i → fl k = a k ∧ fh k = b k) (hx : x = a i) (hy : y = b i) : ∀ k, k < i + 1 → upd fl i x k = a k ∧ upd fh i y k = b k := by
  intro k hk
  by_cases e : k = i
  · subst e; rw [pk_us, pk_us]; exact ⟨hx, hy⟩
  · rw [pk_un e, pk_un e]; exact hI k (by omega)
set_option maxHeartbeats 4000000 in
set_option maxRecDepth 100000 in
theorem lp_bv {p : Program} {l : Launch} {e : Env} {R : Room} {s : State} {m : MethodId} {args : Array Value} {below : List Frame} {meth : Method} {c : Code} {Q : State → Prop} {dC : Nat → ClassId} {dI : Nat → Nat → Nat} {ad : Nat → Nat} {cz ci cj : ClassId} {Ar : Nat → Prop} (hx : p.tables.exec = Jvm.exec) (hb : c.code = cX0_boundValues) (hml : c.maxLocals = 2) (hown : s.vm.findClass "GameGraph" = some m.cls) (hw : ∀ w ∈ wAll, w.before args s = true) (hK : va_K (dC, dI) vwCl (gty cz ci cj) s) (hA : ∀ q, s.heap.size ≤ q → Ar q) (hR1 : 0 ≤ R.frames) (hR2 : 0 ≤ R.locals) (fO fA fB fT : Nat → Int32) (sv : Int32) (fC : Nat → Int64) (rs : Int64) (dk ds : Int32) (fL : Nat → Int32) (c0 : Nat) (h60 : c0 ≤ 60)
    (kx : ∀ (fl2 : Nat → Int32) (fh2 : Nat → Int32), (∀ k, k < c0 → fl2 k = (if fO k = 0 then fA k else 0) ∧ fh2 k = (if fO k = 0 then fA k else 100)) → ∀ (H : Heap) (locs : List Loc), va_P (dC, dI) vwCl (gw ad cz ci cj ((nI c0), fO, fA, fB, fT, sv, fC, rs, dk, ds, fL, fl2, fh2)) H → va_D Ar (gw ad cz ci cj ((nI c0), fO, fA, fB, fT, sv, fC, rs, dk, ds, fL, fl2, fh2)) → va_S Ar s.heap H locs → ∀ (ls : Array Slot), lv_has ls 2 [(0, .ref (ad 0))] → W p l e R s m args below meth c H locs 0 0 Q (F0 m 67 ls [])) :
    ∀ (fuel : Nat) (i : Nat) (fl2 : Nat → Int32) (fh2 : Nat → Int32), c0 + 1 ≤ i + fuel → i ≤ c0 → (∀ k, k < i → fl2 k = (if fO k = 0 then fA k else 0) ∧ fh2 k = (if fO k = 0 then fA k else 100)) → ∀ (H : Heap) (locs : List Loc), va_P (dC, dI) vwCl (gw ad cz ci cj ((nI c0), fO, fA, fB, fT, sv, fC, rs, dk, ds, fL, fl2, fh2)) H → va_D Ar (gw ad cz ci cj ((nI c0), fO, fA, fB, fT, sv, fC, rs, dk, ds, fL, fl2, fh2)) → va_S Ar s.heap H locs → ∀ (ls : Array Slot), lv_has ls 2 [(0, .ref (ad 0)), (1, .int (nI i))] → W p l e R s m args below meth c H locs 0 0 Q (F0 m 2 ls []) := by
  intro fuel
  induction fuel with
  | zero => intro i fl2 fh2 hfu hi hI; exact absurd hfu (by omega)
  | succ fuel ih =>
    intro i fl2 fh2 hfu hi hI H locs hP hD hS ls hl
    refine lv_iload_n hx hb dX0_boundValues_2 rfl (lv_at hl 1 rfl) ?_
    refine lv_aload_n hx hb dX0_boundValues_3 rfl (lv_at hl 0 rfl) ?_
    refine va_get (D := (dC, dI)) (ci := 0) (v := .int (nI c0)) (C := RX0) (T := TX0) (N := 13) hx hb hw in_X0 hown hK hP 0 rfl rfl 0 (by decide) (hw _ m_1_18) (fun _ h9 => h9) rfl dX0_boundValues_4 ?_
    refine lv_icmp_ge (tgt := 67) hx hb dX0_boundValues_7 (by decide) (fun c_1 => ?_) (fun c_1 => ?_)
    · exact kx fl2 fh2 (by rw [show i = c0 from (k_eq hi c_1 (by omega)).symm] at hI; exact hI) _ _ hP hD hS _ (lv_sub hl [0] rfl)
    · have hlt : i < c0 := k_lt c_1 (by omega)
      refine lv_aload_n hx hb dX0_boundValues_10 rfl (lv_at hl 0 rfl) ?_
      refine va_get (D := (dC, dI)) (ci := 0) (v := .ref (ad 7)) (C := RX0) (T := TX0) (N := 13) hx hb hw in_X0 hown hK hP 0 rfl rfl 11 (by decide) (hw _ m_1_29) (fun _ h9 => h9) rfl dX0_boundValues_11 ?_
      refine lv_iload_n hx hb dX0_boundValues_14 rfl (lv_at hl 1 rfl) ?_
      refine lv_aload_n hx hb dX0_boundValues_15 rfl (lv_at hl 0 rfl) ?_
      refine va_get (D := (dC, dI)) (ci := 0) (v := .ref (ad 1)) (C := RX0) (T := TX0) (N := 13) hx hb hw in_X0 hown hK hP 0 rfl rfl 1 (by decide) (hw _ m_1_19) (fun _ h9 => h9) rfl dX0_boundValues_16 ?_
      refine lv_iload_n hx hb dX0_boundValues_19 rfl (lv_at hl 1 rfl) ?_
      refine va_zald hx hb hK hP 1 0 rfl rfl (vp_in_nI (by omega) (by decide)) dX0_boundValues_20 ?_
      refine x_topi (y := fO i) (by rw [nI_clamp (by omega)]) ?_
      refine lv_if_eq (tgt := 28) hx hb dX0_boundValues_21 (by decide) (fun cb_2 => ?_) (fun cb_2 => ?_)
      · refine lv_aload_n hx hb dX0_boundValues_28 rfl (lv_at hl 0 rfl) ?_
        refine va_get (D := (dC, dI)) (ci := 0) (v := .ref (ad 2)) (C := RX0) (T := TX0) (N := 13) hx hb hw in_X0 hown hK hP 0 rfl rfl 2 (by decide) (hw _ m_1_20) (fun _ h9 => h9) rfl dX0_boundValues_29 ?_
        refine lv_iload_n hx hb dX0_boundValues_32 rfl (lv_at hl 1 rfl) ?_
        refine va_iald hx hb hK hP 2 1 rfl rfl (vp_in_nI (by omega) (by decide)) dX0_boundValues_33 ?_
        refine x_topi (y := fA i) (by rw [nI_clamp (by omega)]) ?_
        refine va_iast hx hb hK hP hD hS 7 1 rfl rfl (vp_in_nI (by omega) (by decide)) dX0_boundValues_34 (fun H locs hP hD hS => ?_)
        rw [nI_clamp (by omega)] at hP hD
        have hP : va_P (dC, dI) vwCl (gw ad cz ci cj ((nI c0), fO, fA, fB, fT, sv, fC, rs, dk, ds, fL, (upd fl2 i (fA i)), fh2)) H := hP
        have hD : va_D Ar (gw ad cz ci cj ((nI c0), fO, fA, fB, fT, sv, fC, rs, dk, ds, fL, (upd fl2 i (fA i)), fh2)) := hD
        refine lv_aload_n hx hb dX0_boundValues_35 rfl (lv_at hl 0 rfl) ?_
        refine va_get (D := (dC, dI)) (ci := 0) (v := .ref (ad 8)) (C := RX0) (T := TX0) (N := 13) hx hb hw in_X0 hown hK hP 0 rfl rfl 12 (by decide) (hw _ m_1_30) (fun _ h9 => h9) rfl dX0_boundValues_36 ?_
        refine lv_iload_n hx hb dX0_boundValues_39 rfl (lv_at hl 1 rfl) ?_
        refine lv_aload_n hx hb dX0_boundValues_40 rfl (lv_at hl 0 rfl) ?_
        refine va_get (D := (dC, dI)) (ci := 0) (v := .ref (ad 1)) (C := RX0) (T := TX0) (N := 13) hx hb hw in_X0 hown hK hP 0 rfl rfl 1 (by decide) (hw _ m_1_19) (fun _ h9 => h9) rfl dX0_boundValues_41 ?_
        refine lv_iload_n hx hb dX0_boundValues_44 rfl (lv_at hl 1 rfl) ?_
        refine va_zald hx hb hK hP 1 0 rfl rfl (vp_in_nI (by omega) (by decide)) dX0_boundValues_45 ?_
        refine x_topi (y := fO i) (by rw [nI_clamp (by omega)]) ?_
        refine lv_if_eq (tgt := 54) hx hb dX0_boundValues_46 (by decide) (fun cba_3 => ?_) (fun cba_3 => ?_)
        · refine lv_aload_n hx hb dX0_boundValues_54 rfl (lv_at hl 0 rfl) ?_
          refine va_get (D := (dC, dI)) (ci := 0) (v := .ref (ad 2)) (C := RX0) (T := TX0) (N := 13) hx hb hw in_X0 hown hK hP 0 rfl rfl 2 (by decide) (hw _ m_1_20) (fun _ h9 => h9) rfl dX0_boundValues_55 ?_
          refine lv_iload_n hx hb dX0_boundValues_58 rfl (lv_at hl 1 rfl) ?_
          refine va_iald hx hb hK hP 2 1 rfl rfl (vp_in_nI (by omega) (by decide)) dX0_boundValues_59 ?_
          refine x_topi (y := fA i) (by rw [nI_clamp (by omega)]) ?_
          refine va_iast hx hb hK hP hD hS 8 1 rfl rfl (vp_in_nI (by omega) (by decide)) dX0_boundValues_60 (fun H locs hP hD hS => ?_)
          rw [nI_clamp (by omega)] at hP hD
          have hP : va_P (dC, dI) vwCl (gw ad cz ci cj ((nI c0), fO, fA, fB, fT, sv, fC, rs, dk, ds, fL, (upd fl2 i (fA i)), (upd fh2 i (fA i)))) H := hP
          have hD : va_D Ar (gw ad cz ci cj ((nI c0), fO, fA, fB, fT, sv, fC, rs, dk, ds, fL, (upd fl2 i (fA i)), (upd fh2 i (fA i)))) := hD
          refine lv_iinc (v := (nI (i + 1))) (lv' := [(1, .int (nI (i + 1))), (0, .ref (ad 0))]) hx hb dX0_boundValues_61 hl (k := 1) rfl (nI_1 i) (by decide) rfl (fun ls hl => ?_)
          refine lv_goto (tgt := 2) hx hb dX0_boundValues_64 (by decide) ?_
          exact ih (i + 1) (upd fl2 i (fA i)) (upd fh2 i (fA i)) (by omega) (by omega) (k_bv hI (by rw [if_pos cb_2]) (by rw [if_pos cb_2])) _ _ hP hD hS _ (lv_sub hl [1, 0] rfl)
        · exact absurd cb_2 cba_3
      · refine lv_iconst (v := 0) hx hb dX0_boundValues_24 (by decide) ?_
        refine lv_goto (tgt := 34) hx hb dX0_boundValues_25 (by decide) ?_
        refine va_iast hx hb hK hP hD hS 7 1 rfl rfl (vp_in_nI (by omega) (by decide)) dX0_boundValues_34 (fun H locs hP hD hS => ?_)
        rw [nI_clamp (by omega)] at hP hD
        have hP : va_P (dC, dI) vwCl (gw ad cz ci cj ((nI c0), fO, fA, fB, fT, sv, fC, rs, dk, ds, fL, (upd fl2 i 0), fh2)) H := hP
        have hD : va_D Ar (gw ad cz ci cj ((nI c0), fO, fA, fB, fT, sv, fC, rs, dk, ds, fL, (upd fl2 i 0), fh2)) := hD
        refine lv_aload_n hx hb dX0_boundValues_35 rfl (lv_at hl 0 rfl) ?_
        refine va_get (D := (dC, dI)) (ci := 0) (v := .ref (ad 8)) (C := RX0) (T := TX0) (N := 13) hx hb hw in_X0 hown hK hP 0 rfl rfl 12 (by decide) (hw _ m_1_30) (fun _ h9 => h9) rfl dX0_boundValues_36 ?_
        refine lv_iload_n hx hb dX0_boundValues_39 rfl (lv_at hl 1 rfl) ?_
        refine lv_aload_n hx hb dX0_boundValues_40 rfl (lv_at hl 0 rfl) ?_
        refine va_get (D := (dC, dI)) (ci := 0) (v := .ref (ad 1)) (C := RX0) (T := TX0) (N := 13) hx hb hw in_X0 hown hK hP 0 rfl rfl 1 (by decide) (hw _ m_1_19) (fun _ h9 => h9) rfl dX0_boundValues_41 ?_
        refine lv_iload_n hx hb dX0_boundValues_44 rfl (lv_at hl 1 rfl) ?_
        refine va_zald hx hb hK hP 1 0 rfl rfl (vp_in_nI (by omega) (by decide)) dX0_boundValues_45 ?_
        refine x_topi (y := fO i) (by rw [nI_clamp (by omega)]) ?_
        refine lv_if_eq (tgt := 54) hx hb dX0_boundValues_46 (by decide) (fun cbb_3 => ?_) (fun cbb_3 => ?_)
        · exact absurd cbb_3 cb_2
        · refine lv_bipush (v := 100) hx hb dX0_boundValues_49 (by decide) ?_
          refine lv_goto (tgt := 60) hx hb dX0_boundValues_51 (by decide) ?_
          refine va_iast hx hb hK hP hD hS 8 1 rfl rfl (vp_in_nI (by omega) (by decide)) dX0_boundValues_60 (fun H locs hP hD hS => ?_)
          rw [nI_clamp (by omega)] at hP hD
          have hP : va_P (dC, dI) vwCl (gw ad cz ci cj ((nI c0), fO, fA, fB, fT, sv, fC, rs, dk, ds, fL, (upd fl2 i 0), (upd fh2 i 100))) H := hP
          have hD : va_D Ar (gw ad cz ci cj ((nI c0), fO, fA, fB, fT, sv, fC, rs, dk, ds, fL, (upd fl2 i 0), (upd fh2 i 100))) := hD
          refine lv_iinc (v := (nI (i + 1))) (lv' := [(1, .int (nI (i + 1))), (0, .ref (ad 0))]) hx hb dX0_boundValues_61 hl (k := 1) rfl (nI_1 i) (by decide) rfl (fun ls hl => ?_)
          refine lv_goto (tgt := 2) hx hb dX0_boundValues_64 (by decide) ?_
          exact ih (i + 1) (upd fl2 i 0) (upd fh2 i 100) (by omega) (by omega) (k_bv hI (by rw [if_neg cb_2]) (by rw [if_neg cb_2])) _ _ hP hD hS _ (lv_sub hl [1, 0] rfl)
set_option maxHeartbeats 4000000 in
set_option maxRecDepth 100000 in
theorem c_X0_boundValues (l : Launch) (dC : Nat → ClassId) (dI : Nat → Nat → Nat) (ad : Nat → Nat) (cz ci cj : ClassId) (sz : Nat) (cnt : Int32) (fO : Nat → Int32) (fA : Nat → Int32) (fB : Nat → Int32) (fT : Nat → Int32) (sv : Int32) (fC : Nat → Int64) (rs : Int64) (dk : Int32) (ds : Int32) (fL : Nat → Int32) (fl : Nat → Int32) (fh : Nat → Int32)  (c0 : Nat) (h60 : c0 ≤ 60) : Met l yX0_boundValues wX0_boundValues ({ frames := 0, cells := 0, slots := 0, locals := 0 }) (va_Pc [.ref (ad 0)] (g_Pre (dC, dI) vwCl (gty cz ci cj) (gw ad cz ci cj ((nI c0), fO, fA, fB, fT, sv, fC, rs, dk, ds, fL, fl, fh)) sz)) (va_Qv (fun (u : GS) => ∃ fl2 fh2 : Nat → Int32, (∀ k, k < c0 → fl2 k = (if fO k = 0 then fA k else 0) ∧ fh2 k = (if fO k = 0 then fA k else 100)) ∧ u = (nI c0, fO, fA, fB, fT, sv, fC, rs, dk, ds, fL, fl2, fh2)) (g_At (dC, dI) vwCl (gty cz ci cj) (va_A (gw ad cz ci cj ((nI c0), fO, fA, fB, fT, sv, fC, rs, dk, ds, fL, fl, fh)) sz) (gw ad cz ci cj)) (va_A (gw ad cz ci cj ((nI c0), fO, fA, fB, fT, sv, fC, rs, dk, ds, fL, fl, fh)) sz)) 0 0 (va_A (gw ad cz ci cj ((nI c0), fO, fA, fB, fT, sv, fC, rs, dk, ds, fL, fl, fh)) sz) := by
  refine Met.ofW (cc := cX0_boundValues) (maxL := 2) (ret := none) (by decide) rfl ?_
  intro p e s m args below meth c s₁ Bd hml hv
  obtain ⟨rfl, hsz, hP, hK, hD0⟩ := hv
  have hx := Bd.exec
  have hb := Bd.bytes
  have hr := Bd.returns
  have hts := atoms_spec (ws := wX0_boundValues) Bd.pre
  have hw : ∀ w ∈ wAll, w.before _ s = true := fun w h => hts w (List.mem_cons_of_mem _ h)
  have hown : s.vm.findClass "GameGraph" = some m.cls := findClass_of_methodNamed Bd.named
  have hlocks := Bd.notSynchronized
  subst hsz
  have hD := hD0.self (sz := s.heap.size)
  generalize hAe : va_A (gw ad cz ci cj ((nI c0), fO, fA, fB, fT, sv, fC, rs, dk, ds, fL, fl, fh)) s.heap.size = Ar at hD ⊢
  have hA : ∀ q : Nat, s.heap.size ≤ q → Ar q := fun q h => by rw [← hAe]; exact Or.inr h
  obtain ⟨H, hH⟩ : ∃ H : Heap, H = s.heap := ⟨_, rfl⟩
  have hS : va_S Ar s.heap H [] := by rw [hH]; exact va_S.rf
  have hP : va_P (dC, dI) vwCl (gw ad cz ci cj ((nI c0), fO, fA, fB, fT, sv, fC, rs, dk, ds, fL, fl, fh)) H := by rw [hH]; exact hP
  rw [← hH]
  have hl := lv_entry ([.ref (ad 0)]) (n := 2) (Nat.le_of_ble_eq_true rfl)
  rw [lg_entry_eq]
  generalize (lg_sl ([.ref (ad 0)]) ++ List.replicate (2 - (lg_sl ([.ref (ad 0)])).length) Slot.unset).toArray = ls at hl ⊢
  have hl : lv_has ls 2 [(0, .ref (ad 0))] := hl
  refine lv_iconst (v := 0) hx hb dX0_boundValues_0 (by decide) ?_
  refine x_topi (y := nI 0) (rfl) ?_
  refine lv_istore_n (lv' := [(1, .int (nI 0)), (0, .ref (ad 0))]) hx hb dX0_boundValues_1 rfl hl (by decide) rfl (fun ls hl => ?_)
  refine lp_bv (dC := dC) (dI := dI) (ad := ad) (cz := cz) (ci := ci) (cj := cj) (Ar := Ar) hx hb hml hown hw hK hA (Nat.le_of_ble_eq_true rfl) (Nat.le_of_ble_eq_true rfl) fO fA fB fT sv fC rs dk ds fL c0 h60 ?_ (c0 + 1) 0 fl fh (by omega) (by omega) (fun k hk => absurd hk (Nat.not_lt_zero _)) _ _ hP hD hS _ (lv_sub hl [1, 0] rfl)
  intro fl2 fh2 hI H locs hP hD hS ls hl
  exact W.vret hx hb hr (fun t ht hW => ⟨⟨((nI c0), fO, fA, fB, fT, sv, fC, rs, dk, ds, fL, fl2, fh2), rfl, (⟨fl2, fh2, hI, rfl⟩), (by rw [ht]; exact hP), va_K.moved hW.alike hK, hD⟩, hS.F ht⟩) hS.2.2 dX0_boundValues_67
set_option maxHeartbeats 4000000 in
set_option maxRecDepth 100000 in
theorem c_X0_survey (l : Launch) (dC : Nat → ClassId) (dI : Nat → Nat → Nat) (ad : Nat → Nat) (cz ci cj : ClassId) (sz : Nat) (cnt : Int32) (fO : Nat → Int32) (fA : Nat → Int32) (fB : Nat → Int32) (fT : Nat → Int32) (sv : Int32) (fC : Nat → Int64) (rs : Int64) (dk : Int32) (ds : Int32) (fL : Nat → Int32) (fl : Nat → Int32) (fh : Nat → Int32)  (c0 : Nat) (hg : g_ok c0 fO fA fB fT) (hsv : sv = 0 ∨ (sv = 1 ∧ g_sv c0 fO fA fB fT rs dk ds fL fl fh)) : Met l yX0_survey wX0_survey ({ frames := 3, cells := 0, slots := 0, locals := 69 }) (va_Pc [.ref (ad 0)] (g_Pre (dC, dI) vwCl (gty cz ci cj) (gw ad cz ci cj ((nI c0), fO, fA, fB, fT, sv, fC, rs, dk, ds, fL, fl, fh)) sz)) (va_Qv (fun (u : GS) => ∃ (fC2 : Nat → Int64) (rs2 : Int64) (dk2 ds2 : Int32) (fL2 fl2 fh2 : Nat → Int32), g_sv c0 fO fA fB fT rs2 dk2 ds2 fL2 fl2 fh2 ∧ u = (nI c0, fO, fA, fB, fT, 1, fC2, rs2, dk2, ds2, fL2, fl2, fh2)) (g_At (dC, dI) vwCl (gty cz ci cj) (va_A (gw ad cz ci cj ((nI c0), fO, fA, fB, fT, sv, fC, rs, dk, ds, fL, fl, fh)) sz) (gw ad cz ci cj)) (va_A (gw ad cz ci cj ((nI c0), fO, fA, fB, fT, sv, fC, rs, dk, ds, fL, fl, fh)) sz)) 0 0 (va_A (gw ad cz ci cj ((nI c0), fO, fA, fB, fT, sv, fC, rs, dk, ds, fL, fl, fh)) sz) := by
  refine Met.ofW (cc := cX0_survey) (maxL := 1) (ret := none) (by decide) rfl ?_
  intro p e s m args below meth c s₁ Bd hml hv
  obtain ⟨rfl, hsz, hP, hK, hD0⟩ := hv
  have hx := Bd.exec
  have hb := Bd.bytes
  have hr := Bd.returns
  have hts := atoms_spec (ws := wX0_survey) Bd.pre
  have hw : ∀ w ∈ wAll, w.before _ s = true := fun w h => hts w (List.mem_cons_of_mem _ h)
  have hown : s.vm.findClass "GameGraph" = some m.cls := findClass_of_methodNamed Bd.named
  have hlocks := Bd.notSynchronized
  subst hsz
  have hD := hD0.self (sz := s.heap.size)
  generalize hAe : va_A (gw ad cz ci cj ((nI c0), fO, fA, fB, fT, sv, fC, rs, dk, ds, fL, fl, fh)) s.heap.size = Ar at hD ⊢
  have hA : ∀ q : Nat, s.heap.size ≤ q → Ar q := fun q h => by rw [← hAe]; exact Or.inr h
  obtain ⟨H, hH⟩ : ∃ H : Heap, H = s.heap := ⟨_, rfl⟩
  have hS : va_S Ar s.heap H [] := by rw [hH]; exact va_S.rf
  have hP : va_P (dC, dI) vwCl (gw ad cz ci cj ((nI c0), fO, fA, fB, fT, sv, fC, rs, dk, ds, fL, fl, fh)) H := by rw [hH]; exact hP
  rw [← hH]
  have hl := lv_entry ([.ref (ad 0)]) (n := 1) (Nat.le_of_ble_eq_true rfl)
  rw [lg_entry_eq]
  generalize (lg_sl ([.ref (ad 0)]) ++ List.replicate (1 - (lg_sl ([.ref (ad 0)])).length) Slot.unset).toArray = ls at hl ⊢
  have hl : lv_has ls 1 [(0, .ref (ad 0))] := hl
  have h60 := hg.2.1
  have h1 := hg.1
  refine lv_aload_n hx hb dX0_survey_0 rfl (lv_at hl 0 rfl) ?_
  refine va_get (D := (dC, dI)) (ci := 0) (v := .int sv) (C := RX0) (T := TX0) (N := 13) hx hb hw in_X0 hown hK hP 0 rfl rfl 5 (by decide) (hw _ m_1_23) (fun _ h9 => h9) rfl dX0_survey_1 ?_
  refine lv_if_eq (tgt := 8) hx hb dX0_survey_4 (by decide) (fun c_1 => ?_) (fun c_1 => ?_)
  · refine lv_aload_n hx hb dX0_survey_8 rfl (lv_at hl 0 rfl) ?_
    refine g_callv ⟨hx, hb, hml, hown, hw⟩ (c_X0_findWhatStatesComeTo l dC dI ad cz ci cj H.size (nI c0) fO fA fB fT sv fC rs dk ds fL fl fh  c0 hg) (cwV 0 hw gv_X0_X0_findWhatStatesComeTo rfl rfl rfl (by decide +kernel) ⟨Nat.le_of_ble_eq_true rfl, Nat.le_of_ble_eq_true rfl⟩) hK hP hD hS hA (ci := 0) (q0 := 0) rfl rfl rfl hl.1 rfl (Nat.le_of_ble_eq_true rfl) dX0_survey_9 ⟨Nat.zero_le _, Nat.zero_le _⟩ (fun  un H locs hq hP hD hS => ?_)
    obtain ⟨fC2, hC, rfl⟩ := hq
    have hP : va_P (dC, dI) vwCl (gw ad cz ci cj ((nI c0), fO, fA, fB, fT, sv, fC2, rs, dk, ds, fL, fl, fh)) H := hP
    have hD : va_D Ar (gw ad cz ci cj ((nI c0), fO, fA, fB, fT, sv, fC2, rs, dk, ds, fL, fl, fh)) := hD
    refine lv_aload_n hx hb dX0_survey_12 rfl (lv_at hl 0 rfl) ?_
    refine lv_aload_n hx hb dX0_survey_13 rfl (lv_at hl 0 rfl) ?_
    refine va_get (D := (dC, dI)) (ci := 0) (v := .ref (ad 5)) (C := RX0) (T := TX0) (N := 13) hx hb hw in_X0 hown hK hP 0 rfl rfl 6 (by decide) (hw _ m_1_24) (fun _ h9 => h9) rfl dX0_survey_14 ?_
    refine lv_iconst (v := 0) hx hb dX0_survey_17 (by decide) ?_
    refine x_topi (y := nI 0) (rfl) ?_
    refine va_lald hx hb hK hP 5 2 rfl rfl (vp_in_nI (by omega) (by decide)) dX0_survey_18 ?_
    refine x_topl (y := fC2 0) (by rw [nI_clamp (by omega)]) ?_
    refine lv_lconst (v := 1) hx hb dX0_survey_19 (by decide) ?_
    refine lv_lor hx hb dX0_survey_20 ?_
    refine lv_topl (fun ra_2 era_2 => ?_)
    refine va_put (D := (dC, dI)) (ci := 0) (v := .long ra_2) (ty := .long) (C := RX0) (T := TX0) (N := 13) hx hb hw in_X0 tyX0 tyX0_ok nmX0 hown hK hP hD hS 0 rfl rfl 7 (by decide) (hw _ m_1_25) (fun _ h9 => h9) rfl (by decide +kernel) rfl rfl (Nat.le_of_ble_eq_true rfl) dX0_survey_21 (fun H locs hP hD hS => ?_)
    have hP : va_P (dC, dI) vwCl (gw ad cz ci cj ((nI c0), fO, fA, fB, fT, sv, fC2, ra_2, dk, ds, fL, fl, fh)) H := hP
    have hD : va_D Ar (gw ad cz ci cj ((nI c0), fO, fA, fB, fT, sv, fC2, ra_2, dk, ds, fL, fl, fh)) := hD
    refine lv_aload_n hx hb dX0_survey_24 rfl (lv_at hl 0 rfl) ?_
    have hrs : ∀ m, b_t ra_2 m = true ↔ gre c0 fO fA fB fT m := fun m => by rw [era_2, b_t_or, b_t_one, Bool.or_eq_true, decide_eq_true_eq, hC 0 (by omega) m]; exact ⟨fun q => q.elim Or.inr Or.inl, fun q => q.elim Or.inr Or.inl⟩
    refine g_callv ⟨hx, hb, hml, hown, hw⟩ (c_X0_findDefect l dC dI ad cz ci cj H.size (nI c0) fO fA fB fT sv fC2 ra_2 dk ds fL fl fh  c0 hg (fun m _ => hrs m) hC) (cwV 0 hw gv_X0_X0_findDefect rfl rfl rfl (by decide +kernel) ⟨Nat.le_of_ble_eq_true rfl, Nat.le_of_ble_eq_true rfl⟩) hK hP hD hS hA (ci := 0) (q0 := 0) rfl rfl rfl hl.1 rfl (Nat.le_of_ble_eq_true rfl) dX0_survey_25 ⟨Nat.zero_le _, Nat.zero_le _⟩ (fun  un H locs hq hP hD hS => ?_)
    obtain ⟨dk2, ds2, hdf, rfl⟩ := hq
    have hP : va_P (dC, dI) vwCl (gw ad cz ci cj ((nI c0), fO, fA, fB, fT, sv, fC2, ra_2, dk2, ds2, fL, fl, fh)) H := hP
    have hD : va_D Ar (gw ad cz ci cj ((nI c0), fO, fA, fB, fT, sv, fC2, ra_2, dk2, ds2, fL, fl, fh)) := hD
    refine lv_aload_n hx hb dX0_survey_28 rfl (lv_at hl 0 rfl) ?_
    refine va_get (D := (dC, dI)) (ci := 0) (v := .int dk2) (C := RX0) (T := TX0) (N := 13) hx hb hw in_X0 hown hK hP 0 rfl rfl 8 (by decide) (hw _ m_1_26) (fun _ h9 => h9) rfl dX0_survey_29 ?_
    refine lv_if_ne (tgt := 43) hx hb dX0_survey_32 (by decide) (fun ca_3 => ?_) (fun ca_3 => ?_)
    · refine lv_aload_n hx hb dX0_survey_43 rfl (lv_at hl 0 rfl) ?_
      refine lv_iconst (v := 1) hx hb dX0_survey_44 (by decide) ?_
      refine va_put (D := (dC, dI)) (ci := 0) (v := .int 1) (ty := .boolean) (C := RX0) (T := TX0) (N := 13) hx hb hw in_X0 tyX0 tyX0_ok nmX0 hown hK hP hD hS 0 rfl rfl 5 (by decide) (hw _ m_1_23) (fun _ h9 => h9) rfl (by decide +kernel) rfl rfl (Nat.le_of_ble_eq_true rfl) dX0_survey_45 (fun H locs hP hD hS => ?_)
      have hP : va_P (dC, dI) vwCl (gw ad cz ci cj ((nI c0), fO, fA, fB, fT, 1, fC2, ra_2, dk2, ds2, fL, fl, fh)) H := hP
      have hD : va_D Ar (gw ad cz ci cj ((nI c0), fO, fA, fB, fT, 1, fC2, ra_2, dk2, ds2, fL, fl, fh)) := hD
      exact W.vret hx hb hr (fun t ht hW => ⟨⟨((nI c0), fO, fA, fB, fT, 1, fC2, ra_2, dk2, ds2, fL, fl, fh), rfl, (⟨fC2, ra_2, dk2, ds2, fL, fl, fh, ⟨hrs, hdf, fun q => absurd q ca_3⟩, rfl⟩), (by rw [ht]; exact hP), va_K.moved hW.alike hK, hD⟩, hS.F ht⟩) hS.2.2 dX0_survey_48
    · subst ca_3
      have hnd := g_nd_of hg hdf
      refine lv_aload_n hx hb dX0_survey_35 rfl (lv_at hl 0 rfl) ?_
      refine g_callv ⟨hx, hb, hml, hown, hw⟩ (c_X0_findLengths l dC dI ad cz ci cj H.size (nI c0) fO fA fB fT sv fC2 ra_2 0 ds2 fL fl fh  c0 hg hrs hC hnd.2) (cwV 0 hw gv_X0_X0_findLengths rfl rfl rfl (by decide +kernel) ⟨Nat.le_of_ble_eq_true rfl, Nat.le_of_ble_eq_true rfl⟩) hK hP hD hS hA (ci := 0) (q0 := 0) rfl rfl rfl hl.1 rfl (Nat.le_of_ble_eq_true rfl) dX0_survey_36 ⟨Nat.zero_le _, Nat.zero_le _⟩ (fun  un H locs hq hP hD hS => ?_)
      obtain ⟨fL2, hL, rfl⟩ := hq
      have hP : va_P (dC, dI) vwCl (gw ad cz ci cj ((nI c0), fO, fA, fB, fT, sv, fC2, ra_2, 0, ds2, fL2, fl, fh)) H := hP
      have hD : va_D Ar (gw ad cz ci cj ((nI c0), fO, fA, fB, fT, sv, fC2, ra_2, 0, ds2, fL2, fl, fh)) := hD
      refine lv_aload_n hx hb dX0_survey_39 rfl (lv_at hl 0 rfl) ?_
      refine g_callv ⟨hx, hb, hml, hown, hw⟩ (c_X0_boundValues l dC dI ad cz ci cj H.size (nI c0) fO fA fB fT sv fC2 ra_2 0 ds2 fL2 fl fh  c0 h60) (cwV 0 hw gv_X0_X0_boundValues rfl rfl rfl (by decide +kernel) ⟨Nat.le_of_ble_eq_true rfl, Nat.le_of_ble_eq_true rfl⟩) hK hP hD hS hA (ci := 0) (q0 := 0) rfl rfl rfl hl.1 rfl (Nat.le_of_ble_eq_true rfl) dX0_survey_40 ⟨Nat.zero_le _, Nat.zero_le _⟩ (fun  un H locs hq hP hD hS => ?_)
      obtain ⟨fl2, fh2, hB, rfl⟩ := hq
      have hP : va_P (dC, dI) vwCl (gw ad cz ci cj ((nI c0), fO, fA, fB, fT, sv, fC2, ra_2, 0, ds2, fL2, fl2, fh2)) H := hP
      have hD : va_D Ar (gw ad cz ci cj ((nI c0), fO, fA, fB, fT, sv, fC2, ra_2, 0, ds2, fL2, fl2, fh2)) := hD
      refine lv_aload_n hx hb dX0_survey_43 rfl (lv_at hl 0 rfl) ?_
      refine lv_iconst (v := 1) hx hb dX0_survey_44 (by decide) ?_
      refine va_put (D := (dC, dI)) (ci := 0) (v := .int 1) (ty := .boolean) (C := RX0) (T := TX0) (N := 13) hx hb hw in_X0 tyX0 tyX0_ok nmX0 hown hK hP hD hS 0 rfl rfl 5 (by decide) (hw _ m_1_23) (fun _ h9 => h9) rfl (by decide +kernel) rfl rfl (Nat.le_of_ble_eq_true rfl) dX0_survey_45 (fun H locs hP hD hS => ?_)
      have hP : va_P (dC, dI) vwCl (gw ad cz ci cj ((nI c0), fO, fA, fB, fT, 1, fC2, ra_2, 0, ds2, fL2, fl2, fh2)) H := hP
      have hD : va_D Ar (gw ad cz ci cj ((nI c0), fO, fA, fB, fT, 1, fC2, ra_2, 0, ds2, fL2, fl2, fh2)) := hD
      exact W.vret hx hb hr (fun t ht hW => ⟨⟨((nI c0), fO, fA, fB, fT, 1, fC2, ra_2, 0, ds2, fL2, fl2, fh2), rfl, (⟨fC2, ra_2, 0, ds2, fL2, fl2, fh2, ⟨hrs, hdf, fun _ => ⟨hL, g_bd_0 hg hnd hB⟩⟩, rfl⟩), (by rw [ht]; exact hP), va_K.moved hW.alike hK, hD⟩, hS.F ht⟩) hS.2.2 dX0_survey_48
  · rcases hsv with q | ⟨rfl, hs⟩
    · exact absurd q c_1
    exact W.vret hx hb hr (fun t ht hW => ⟨⟨((nI c0), fO, fA, fB, fT, 1, fC, rs, dk, ds, fL, fl, fh), rfl, (⟨fC, rs, dk, ds, fL, fl, fh, hs, rfl⟩), (by rw [ht]; exact hP), va_K.moved hW.alike hK, hD⟩, hS.F ht⟩) hS.2.2 dX0_survey_7
