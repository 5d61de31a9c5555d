/-! The reference: values and lengths (by tool/mval.py). -/
section MV
variable {c0 : Nat} {sO sA sB sT fO fG fH fM fN fT : Nat → Int32}
def m_kn (c0 : Nat) (sO sA sB sT fK fV fE : Nat → Int32) : Prop := ∀ m, m < c0 → ¬ fK m = 0 → gre c0 sO sA sB sT m ∧ (fV m).toInt = gval c0 sO sA sB sT m ∧ fE m = nI (glen c0 sO sA sB sT m)
def m_vs (c0 : Nat) (sO sA sB sT : Nat → Int32) (n j : Nat) (x : Int32) : Prop := 0 < j → x.toInt = if gfi sA n = true then w_mx (fun i => gval c0 sO sA sB sT (gtg sT n i)) j else w_mn (fun i => gval c0 sO sA sB sT (gtg sT n i)) j
theorem m_v0 {n j : Nat} {y : Int32} (hj : j = 0) (hy : y.toInt = gval c0 sO sA sB sT (gtg sT n j)) (hb : 0 ≤ gval c0 sO sA sB sT (gtg sT n j) ∧ gval c0 sO sA sB sT (gtg sT n j) ≤ 100) : m_vs c0 sO sA sB sT n (j + 1) y := by
  subst hj
  intro _
  rw [hy]
  by_cases q : gfi sA n = true
  · rw [if_pos q]; show _ = max 0 (gval c0 sO sA sB sT (gtg sT n 0)); omega
  · rw [if_neg q]; show _ = min 100 (gval c0 sO sA sB sT (gtg sT n 0)); omega
theorem m_v1 {n j : Nat} {x y : Int32} (hf : gfi sA n = true) (h : m_vs c0 sO sA sB sT n j x) (hj : ¬ j = 0) (hy : y.toInt = gval c0 sO sA sB sT (gtg sT n j)) (hc : ¬ y ≤ x) : m_vs c0 sO sA sB sT n (j + 1) y := by
  intro _
  have h := h (by omega)
  have hc := k_nil hc
  rw [if_pos hf] at h ⊢
  show _ = max _ (gval c0 sO sA sB sT (gtg sT n j))
  rw [← h, ← hy]; omega
theorem m_v2 {n j : Nat} {x y : Int32} (hf : gfi sA n = true) (h : m_vs c0 sO sA sB sT n j x) (hj : ¬ j = 0) (hy : y.toInt = gval c0 sO sA sB sT (gtg sT n j)) (hc : y ≤ x) : m_vs c0 sO sA sB sT n (j + 1) x := by
  intro _
  have h := h (by omega)
  have hc := k_il hc
  rw [if_pos hf] at h ⊢
  show _ = max _ (gval c0 sO sA sB sT (gtg sT n j))
  rw [← h, ← hy]; omega
theorem m_v3 {n j : Nat} {x y : Int32} (hf : gfi sA n = false) (h : m_vs c0 sO sA sB sT n j x) (hj : ¬ j = 0) (hy : y.toInt = gval c0 sO sA sB sT (gtg sT n j)) (hc : ¬ x ≤ y) : m_vs c0 sO sA sB sT n (j + 1) y := by
  intro _
  have h := h (by omega)
  have hc := k_nil hc
  rw [if_neg (by rw [hf]; decide)] at h ⊢
  show _ = min _ (gval c0 sO sA sB sT (gtg sT n j))
  rw [← h, ← hy]; omega
theorem m_v4 {n j : Nat} {x y : Int32} (hf : gfi sA n = false) (h : m_vs c0 sO sA sB sT n j x) (hj : ¬ j = 0) (hy : y.toInt = gval c0 sO sA sB sT (gtg sT n j)) (hc : x ≤ y) : m_vs c0 sO sA sB sT n (j + 1) x := by
  intro _
  have h := h (by omega)
  have hc := k_il hc
  rw [if_neg (by rw [hf]; decide)] at h ⊢
  show _ = min _ (gval c0 sO sA sB sT (gtg sT n j))
  rw [← h, ← hy]; omega
theorem m_e1 {g : Nat → Nat} {j : Nat} {x y : Int32} (hx : x = nI (w_nx g j)) (hy : y = nI (g j)) (h : y ≤ x) (h1 : w_nx g j < 100) (h2 : g j < 100) : x = nI (w_nx g (j + 1)) := by
  rw [hx, hy, Int32.le_iff_toInt_le, nI_toInt (by omega), nI_toInt (by omega)] at h
  rw [hx]
  show _ = nI (max _ _)
  rw [show max (w_nx g j) (g j) = w_nx g j by omega]
theorem m_e2 {g : Nat → Nat} {j : Nat} {x y : Int32} (hx : x = nI (w_nx g j)) (hy : y = nI (g j)) (h : ¬ y ≤ x) (h1 : w_nx g j < 100) (h2 : g j < 100) : y = nI (w_nx g (j + 1)) := by
  rw [hx, hy, Int32.le_iff_toInt_le, nI_toInt (by omega), nI_toInt (by omega)] at h
  rw [hy]
  show _ = nI (max _ _)
  rw [show max (w_nx g j) (g j) = g j by omega]
theorem m_lx (hg : g_ok c0 sO sA sB sT) (hnd : g_nd c0 sO sA sB sT) {n : Nat} (hr : gre c0 sO sA sB sT n) (hm : m_rel c0 sO sA sB sT fO fG fH fM fN fT) {x y : Int32} (hy : y = nI (w_nx (fun i => glen c0 sO sA sB sT (gtg sT n i) + 1) (gmv sO sA sB n))) (hs : m_vs c0 sO sA sB sT n (gmv sO sA sB n) x) (h0 : gmv sO sA sB n = 0 → x = fG n) : x.toInt = gval c0 sO sA sB sT n ∧ y = nI (glen c0 sO sA sB sT n) := by
  have hn := s_re_lt (g_sok hg) hr
  refine ⟨?_, ?_⟩
  · by_cases hO : sO n = 0
    · have e : gmv sO sA sB n = 0 := by unfold gmv; rw [if_pos hO]
      rw [h0 e, ((hm n hn).2.1 hO).1, g_val_end hg hnd hr hO]
    · have hd := g_nd_open (hnd.1 n hn hr) hO
      have := hs (by omega)
      by_cases q : gfi sA n = true
      · rw [if_pos q] at this; rw [this, k_vx hg hnd hr hO q]
      · rw [if_neg q] at this; rw [this, k_vn hg hnd hr hO (by simpa using q)]
  · rw [hy]; congr 1; exact (s_len_eq (g_sok hg) hnd.2 hr).symm
theorem m_ne (hnd : g_nd c0 sO sA sB sT) {n j : Nat} (hr : gre c0 sO sA sB sT n) (hj : j < gmv sO sA sB n) : gtg sT n j ≠ n := by
  intro e
  have h : s_to c0 (gmv sO sA sB) (gtg sT) n (gtg sT n j) := s_to_ed hj
  rw [e] at h
  exact hnd.2 n hr h
theorem m_l1a {fK fK2 : Nat → Int32} {n j : Nat} (hne : gtg sT n j ≠ n) (hoth : ∀ m, m ≠ n → fK2 m = fK m) (hkn : (¬ fK2 n = 0) ↔ ∀ i, i < j → ¬ fK (gtg sT n i) = 0) (hc : ¬ fK2 (gtg sT n j) = 0) : (¬ fK2 n = 0) ↔ ∀ i, i < j + 1 → ¬ fK (gtg sT n i) = 0 := by
  refine ⟨fun h i hi => ?_, fun h => hkn.mpr (fun i hi => h i (by omega))⟩
  rcases Nat.lt_or_ge i j with q | q
  · exact hkn.mp h i q
  · have e : i = j := by omega
    rw [e, ← hoth _ hne]; exact hc
theorem m_l1b {fK fK2 : Nat → Int32} {n j : Nat} (hne : gtg sT n j ≠ n) (hoth : ∀ m, m ≠ n → fK2 m = fK m) (hc : fK2 (gtg sT n j) = 0) : (¬ upd fK2 n 0 n = 0) ↔ ∀ i, i < j + 1 → ¬ fK (gtg sT n i) = 0 :=
  ⟨fun h => absurd pk_us h, fun h => absurd ((hoth _ hne).symm.trans hc) (h j (by omega))⟩
theorem m_gf (hm : m_rel c0 sO sA sB sT fO fG fH fM fN fT) {n : Nat} (hn : n < c0) (h0 : ¬ sO n = 0) : gfi sA n = decide (1 < fM n) := by
  unfold gfi; rw [((hm n hn).2.2 h0).1]
theorem m_gft (hm : m_rel c0 sO sA sB sT fO fG fH fM fN fT) {n j : Nat} (hn : n < c0) (hj : j < gmv sO sA sB n) (h : ¬ fM n ≤ 1) : gfi sA n = true := by
  rw [m_gf hm hn (fun e => by unfold gmv at hj; rw [if_pos e] at hj; omega)]
  exact decide_eq_true (k_nle h)
theorem m_gff (hm : m_rel c0 sO sA sB sT fO fG fH fM fN fT) {n j : Nat} (hn : n < c0) (hj : j < gmv sO sA sB n) (h : fM n ≤ 1) : gfi sA n = false := by
  rw [m_gf hm hn (fun e => by unfold gmv at hj; rw [if_pos e] at hj; omega)]
  exact decide_eq_false (fun q => k_ltle h q)
theorem m_wl (hg : g_ok c0 sO sA sB sT) (hnd : g_nd c0 sO sA sB sT) {n : Nat} (hr : gre c0 sO sA sB sT n) {j : Nat} (hj : j ≤ gmv sO sA sB n) : w_nx (fun i => glen c0 sO sA sB sT (gtg sT n i) + 1) j < 100 := by
  have h60 := hg.2.1
  have := w_nx_le (g := fun i => glen c0 sO sA sB sT (gtg sT n i) + 1) (b := 60) j (fun i hi => by
    have := s_len_c (g_sok hg) hnd.2 (s_re_ed (g_sok hg) hr (show i < gmv sO sA sB n by omega))
    show s_len _ _ c0 _ + 1 ≤ 60
    omega)
  omega
theorem m_gl (hg : g_ok c0 sO sA sB sT) (hnd : g_nd c0 sO sA sB sT) {n : Nat} (hr : gre c0 sO sA sB sT n) : glen c0 sO sA sB sT n < c0 := s_len_c (g_sok hg) hnd.2 hr
/-- one state more in a round -/
theorem m_sk {fK : Nat → Int32} {rd s : Nat} (h : ∀ m, m < c0 → gre c0 sO sA sB sT m → glen c0 sO sA sB sT m < (if m < s then rd + 1 else rd) → ¬ fK m = 0) (hs : gre c0 sO sA sB sT s → ¬ fK s = 0) : ∀ m, m < c0 → gre c0 sO sA sB sT m → glen c0 sO sA sB sT m < (if m < s + 1 then rd + 1 else rd) → ¬ fK m = 0 := by
  intro m hm hr hl
  by_cases e : m = s
  · subst e; exact hs hr
  · refine h m hm hr ?_
    by_cases q : m < s
    · rw [if_pos q]; rw [if_pos (by omega)] at hl; exact hl
    · rw [if_neg q]; rw [if_neg (by omega)] at hl; exact hl
theorem m_sl {fK fK3 : Nat → Int32} {rd s : Nat} (hg : g_ok c0 sO sA sB sT) (hnd : g_nd c0 sO sA sB sT) (hr0 : gre c0 sO sA sB sT s) (h : ∀ m, m < c0 → gre c0 sO sA sB sT m → glen c0 sO sA sB sT m < (if m < s then rd + 1 else rd) → ¬ fK m = 0) (ho : ∀ m, m ≠ s → fK3 m = fK m) (hk : (¬ fK3 s = 0) ↔ ∀ i, i < gmv sO sA sB s → ¬ fK (gtg sT s i) = 0) : ∀ m, m < c0 → gre c0 sO sA sB sT m → glen c0 sO sA sB sT m < (if m < s + 1 then rd + 1 else rd) → ¬ fK3 m = 0 := by
  intro m hm hr hl
  by_cases e : m = s
  · subst e
    rw [if_pos (by omega)] at hl
    refine hk.mpr (fun i hi => ?_)
    have h1 : glen c0 sO sA sB sT (gtg sT m i) < glen c0 sO sA sB sT m := s_len_ed (g_sok hg) hnd.2 hr0 hi
    have h2 := s_re_ed (g_sok hg) hr0 hi
    refine h _ (s_re_lt (g_sok hg) h2) h2 ?_
    by_cases q : gtg sT m i < m
    · rw [if_pos q]; omega
    · rw [if_neg q]; omega
  · rw [ho m e]
    refine h m hm hr ?_
    by_cases q : m < s
    · rw [if_pos q]; rw [if_pos (by omega)] at hl; exact hl
    · rw [if_neg q]; rw [if_neg (by omega)] at hl; exact hl
theorem m_kl {fK fV fE fK3 fV3 fE3 : Nat → Int32} {s : Nat} (h : m_kn c0 sO sA sB sT fK fV fE) (hr : gre c0 sO sA sB sT s) (ho : ∀ m, m ≠ s → fK3 m = fK m ∧ fV3 m = fV m ∧ fE3 m = fE m) (hs : ¬ fK3 s = 0 → (fV3 s).toInt = gval c0 sO sA sB sT s ∧ fE3 s = nI (glen c0 sO sA sB sT s)) : m_kn c0 sO sA sB sT fK3 fV3 fE3 := by
  intro m hm hk
  by_cases e : m = s
  · subst e; exact ⟨hr, hs hk⟩
  · obtain ⟨a, b, c⟩ := ho m e
    rw [a] at hk; rw [b, c]; exact h m hm hk
end MV
set_option maxHeartbeats 4000000 in
set_option maxRecDepth 100000 in
theorem lm_le1 {p : Program} {l : Launch} {e : Env} {R : Room} {s : State} {m : MethodId} {args : Array Value} {below : List Frame} {meth : Method} {c : Code} {Q : State → Prop} {dC : Nat → ClassId} {dI : Nat → Nat → Nat} {ad : Nat → Nat} {cz ci cj : ClassId} {Ar : Nat → Prop}  (hx : p.tables.exec = Jvm.exec) (hb : c.code = cX1_learn) (hml : c.maxLocals = 5) (hown : s.vm.findClass "GameGraphModel" = some m.cls) (hw : ∀ w ∈ wAll, w.before args s = true) (hK : va_K (dC, dI) vwCl (gty cz ci cj) s) (hA : ∀ q, s.heap.size ≤ q → Ar q) (hR1 : 1 ≤ R.frames) (hR2 : 21 ≤ R.locals) (fO fG fH fM fN fT fR fF fK fV fE : Nat → Int32) (th : Int32) (n : Nat) (sO sA sB sT : Nat → Int32) (c0 : Nat) (hg : g_ok c0 sO sA sB sT) (hm : m_rel c0 sO sA sB sT fO fG fH fM fN fT) (hn : n < c0) (hnd : g_nd c0 sO sA sB sT) (hr : gre c0 sO sA sB sT n)
    (kx : ∀ (fK2 : Nat → Int32), (∀ m, m ≠ n → fK2 m = fK m) → ((¬ fK2 n = 0) ↔ ∀ i, i < gmv sO sA sB n → ¬ fK (gtg sT n i) = 0) → ∀ (H : Heap) (locs : List Loc), va_P (dC, dI) vwCl (mw ad cz ci cj ((nI c0), fO, fG, fH, fM, fN, fT, fR, fF, fK2, fV, fE, th)) H → va_D Ar (mw ad cz ci cj ((nI c0), fO, fG, fH, fM, fN, fT, fR, fF, fK2, fV, fE, th)) → va_S Ar s.heap H locs → ∀ (ls : Array Slot), lv_has ls 5 [(0, .ref (ad 0)), (1, .int (nI n))] → W p l e R s m args below meth c H locs 0 0 Q (F0 m 69 ls [])) :
    ∀ (fuel : Nat) (j : Nat) (fK2 : Nat → Int32), gmv sO sA sB n + 1 ≤ j + fuel → j ≤ gmv sO sA sB n → (∀ m, m ≠ n → fK2 m = fK m) → ((¬ fK2 n = 0) ↔ ∀ i, i < j → ¬ fK (gtg sT n i) = 0) → ∀ (H : Heap) (locs : List Loc), va_P (dC, dI) vwCl (mw ad cz ci cj ((nI c0), fO, fG, fH, fM, fN, fT, fR, fF, fK2, fV, fE, th)) H → va_D Ar (mw ad cz ci cj ((nI c0), fO, fG, fH, fM, fN, fT, fR, fF, fK2, fV, fE, th)) → va_S Ar s.heap H locs → ∀ (ls : Array Slot), lv_has ls 5 [(0, .ref (ad 0)), (1, .int (nI n)), (2, .int (nI j))] → W p l e R s m args below meth c H locs 0 0 Q (F0 m 28 ls []) := by
  intro fuel
  induction fuel with
  | zero => intro j fK2 hfu hj hoth hkn; exact absurd hfu (by omega)
  | succ fuel ih =>
    intro j fK2 hfu hj hoth hkn H locs hP hD hS ls hl
    have h60 := hg.2.1
    have h12 := (m_mv hg hm hn).2
    refine lv_iload_n hx hb dX1_learn_28 rfl (lv_at hl 2 rfl) ?_
    refine lv_aload_n hx hb dX1_learn_29 rfl (lv_at hl 0 rfl) ?_
    refine lv_iload_n hx hb dX1_learn_30 rfl (lv_at hl 1 rfl) ?_
    refine g_calli ⟨hx, hb, hml, hown, hw⟩ (c_X1_joint l dC dI ad cz ci cj H.size (nI c0) fO fG fH fM fN fT fR fF fK2 fV fE th n (by omega)) (cwV 1 hw gv_X1_X1_joint rfl rfl rfl (by decide +kernel) ⟨Nat.le_trans (Nat.le_of_ble_eq_true rfl) hR1, Nat.le_trans (Nat.le_of_ble_eq_true rfl) hR2⟩) hK hP hD hS hA (ci := 1) (q0 := 0) rfl rfl rfl hl.1 rfl (Nat.le_of_ble_eq_true rfl) dX1_learn_31 ⟨Nat.zero_le _, Nat.zero_le _⟩ (fun r_1 un H locs hq hP hD hS => ?_)
    obtain ⟨rfl, hq⟩ := hq
    have hP : va_P (dC, dI) vwCl (mw ad cz ci cj ((nI c0), fO, fG, fH, fM, fN, fT, fR, fF, fK2, fV, fE, th)) H := hP
    have hD : va_D Ar (mw ad cz ci cj ((nI c0), fO, fG, fH, fM, fN, fT, fR, fF, fK2, fV, fE, th)) := hD
    refine x_topi (y := nI (gmv sO sA sB n)) (by rw [hq]; exact (m_mv hg hm hn).1) ?_
    refine lv_icmp_ge (tgt := 69) hx hb dX1_learn_34 (by decide) (fun c_2 => ?_) (fun c_2 => ?_)
    · exact kx fK2 hoth (by rw [show j = gmv sO sA sB n from (k_eq hj c_2 (by omega)).symm] at hkn; exact hkn) _ _ hP hD hS _ (lv_sub hl [0, 1] rfl)
    · have hlt : j < gmv sO sA sB n := k_lt c_2 (by omega)
      refine lv_aload_n hx hb dX1_learn_37 rfl (lv_at hl 0 rfl) ?_
      refine va_get (D := (dC, dI)) (ci := 1) (v := .ref (ad 9)) (C := RX1) (T := TX1) (N := 13) hx hb hw in_X1 hown hK hP 0 rfl rfl 9 (by decide) (hw _ m_8_33) (fun _ h9 => h9) rfl dX1_learn_38 ?_
      refine lv_aload_n hx hb dX1_learn_41 rfl (lv_at hl 0 rfl) ?_
      refine va_get (D := (dC, dI)) (ci := 1) (v := .ref (ad 6)) (C := RX1) (T := TX1) (N := 13) hx hb hw in_X1 hown hK hP 0 rfl rfl 6 (by decide) (hw _ m_8_30) (fun _ h9 => h9) rfl dX1_learn_42 ?_
      refine lv_bipush (v := 12) hx hb dX1_learn_45 (by decide) ?_
      refine lv_iload_n hx hb dX1_learn_47 rfl (lv_at hl 1 rfl) ?_
      refine lv_imul hx hb dX1_learn_48 ?_
      refine x_topi (y := nI (n * 12)) ((pk_mul 12 n).trans (by rw [Nat.mul_comm])) ?_
      refine lv_iload_n hx hb dX1_learn_49 rfl (lv_at hl 2 rfl) ?_
      refine lv_iadd hx hb dX1_learn_50 ?_
      refine x_topi (y := nI (n * 12 + j)) (nI_add _ _) ?_
      have ht := m_tg hg hm hn hlt
      refine va_iald hx hb hK hP 6 1 rfl rfl (vp_in_nI (by omega) (by decide)) dX1_learn_51 ?_
      refine x_topi (y := fT (n * 12 + j)) (by rw [nI_clamp (by omega)]) ?_
      refine x_topi (y := nI (gtg sT n j)) (ht.1) ?_
      refine va_zald hx hb hK hP 9 0 rfl rfl (vp_in_nI (by omega) (by decide)) dX1_learn_52 ?_
      refine x_topi (y := fK2 (gtg sT n j)) (by rw [nI_clamp (by omega)]) ?_
      refine lv_if_ne (tgt := 63) hx hb dX1_learn_53 (by decide) (fun cb_3 => ?_) (fun cb_3 => ?_)
      · refine lv_iinc (v := (nI (j + 1))) (lv' := [(2, .int (nI (j + 1))), (0, .ref (ad 0)), (1, .int (nI n))]) hx hb dX1_learn_63 hl (k := 2) rfl (nI_1 j) (by decide) rfl (fun ls hl => ?_)
        refine lv_goto (tgt := 28) hx hb dX1_learn_66 (by decide) ?_
        exact ih (j + 1) fK2 (by omega) (by omega) hoth (m_l1a (m_ne hnd hr hlt) hoth hkn cb_3) _ _ hP hD hS _ (lv_sub hl [1, 2, 0] rfl)
      · refine lv_aload_n hx hb dX1_learn_56 rfl (lv_at hl 0 rfl) ?_
        refine va_get (D := (dC, dI)) (ci := 1) (v := .ref (ad 9)) (C := RX1) (T := TX1) (N := 13) hx hb hw in_X1 hown hK hP 0 rfl rfl 9 (by decide) (hw _ m_8_33) (fun _ h9 => h9) rfl dX1_learn_57 ?_
        refine lv_iload_n hx hb dX1_learn_60 rfl (lv_at hl 1 rfl) ?_
        refine lv_iconst (v := 0) hx hb dX1_learn_61 (by decide) ?_
        refine va_zast hx hb hK hP hD hS 9 0 rfl rfl (vp_in_nI (by omega) (by decide)) dX1_learn_62 (fun H locs hP hD hS => ?_)
        rw [nI_clamp (by omega)] at hP hD
        rw [show vp_nar .boolean 0 = 0 by decide] at hP hD
        have hP : va_P (dC, dI) vwCl (mw ad cz ci cj ((nI c0), fO, fG, fH, fM, fN, fT, fR, fF, (upd fK2 n 0), fV, fE, th)) H := hP
        have hD : va_D Ar (mw ad cz ci cj ((nI c0), fO, fG, fH, fM, fN, fT, fR, fF, (upd fK2 n 0), fV, fE, th)) := hD
        refine lv_iinc (v := (nI (j + 1))) (lv' := [(2, .int (nI (j + 1))), (0, .ref (ad 0)), (1, .int (nI n))]) hx hb dX1_learn_63 hl (k := 2) rfl (nI_1 j) (by decide) rfl (fun ls hl => ?_)
        refine lv_goto (tgt := 28) hx hb dX1_learn_66 (by decide) ?_
        exact ih (j + 1) (upd fK2 n 0) (by omega) (by omega) (fun m hm2 => (pk_un hm2).trans (hoth m hm2)) (m_l1b (m_ne hnd hr hlt) hoth cb_3) _ _ hP hD hS _ (lv_sub hl [1, 2, 0] rfl)
set_option maxHeartbeats 4000000 in
set_option maxRecDepth 100000 in
theorem lm_le2 {p : Program} {l : Launch} {e : Env} {R : Room} {s : State} {m : MethodId} {args : Array Value} {below : List Frame} {meth : Method} {c : Code} {Q : State → Prop} {dC : Nat → ClassId} {dI : Nat → Nat → Nat} {ad : Nat → Nat} {cz ci cj : ClassId} {Ar : Nat → Prop}  (hx : p.tables.exec = Jvm.exec) (hb : c.code = cX1_learn) (hml : c.maxLocals = 5) (hown : s.vm.findClass "GameGraphModel" = some m.cls) (hw : ∀ w ∈ wAll, w.before args s = true) (hK : va_K (dC, dI) vwCl (gty cz ci cj) s) (hA : ∀ q, s.heap.size ≤ q → Ar q) (hR1 : 1 ≤ R.frames) (hR2 : 21 ≤ R.locals) (fO fG fH fM fN fT fR fF fK fV fE : Nat → Int32) (th : Int32) (n : Nat) (sO sA sB sT : Nat → Int32) (c0 : Nat) (hg : g_ok c0 sO sA sB sT) (hm : m_rel c0 sO sA sB sT fO fG fH fM fN fT) (hn : n < c0) (hnd : g_nd c0 sO sA sB sT) (hr : gre c0 sO sA sB sT n)(hC : ¬ fK n = 0 → ∀ i, i < gmv sO sA sB n → (fV (gtg sT n i)).toInt = gval c0 sO sA sB sT (gtg sT n i) ∧ fE (gtg sT n i) = nI (glen c0 sO sA sB sT (gtg sT n i)))
    (kx : ∀ (fV3 : Nat → Int32) (fE3 : Nat → Int32), (∀ m, m ≠ n → fV3 m = fV m) → (∀ m, m ≠ n → fE3 m = fE m) → (¬ fK n = 0 → (fV3 n).toInt = gval c0 sO sA sB sT n ∧ fE3 n = nI (glen c0 sO sA sB sT n)) → ∀ (H : Heap) (locs : List Loc), va_P (dC, dI) vwCl (mw ad cz ci cj ((nI c0), fO, fG, fH, fM, fN, fT, fR, fF, fK, fV3, fE3, th)) H → va_D Ar (mw ad cz ci cj ((nI c0), fO, fG, fH, fM, fN, fT, fR, fF, fK, fV3, fE3, th)) → va_S Ar s.heap H locs → ∀ (ls : Array Slot), lv_has ls 5 [(0, .ref (ad 0))] → W p l e R s m args below meth c H locs 0 0 Q (F0 m 214 ls [])) :
    ∀ (fuel : Nat) (j : Nat) (fV3 : Nat → Int32) (fE3 : Nat → Int32), gmv sO sA sB n + 1 ≤ j + fuel → j ≤ gmv sO sA sB n → (∀ m, m ≠ n → fV3 m = fV m) → (∀ m, m ≠ n → fE3 m = fE m) → (¬ fK n = 0 → fE3 n = nI (w_nx (fun i => glen c0 sO sA sB sT (gtg sT n i) + 1) j) ∧ m_vs c0 sO sA sB sT n j (fV3 n) ∧ (j = 0 → fV3 n = fG n)) → ∀ (H : Heap) (locs : List Loc), va_P (dC, dI) vwCl (mw ad cz ci cj ((nI c0), fO, fG, fH, fM, fN, fT, fR, fF, fK, fV3, fE3, th)) H → va_D Ar (mw ad cz ci cj ((nI c0), fO, fG, fH, fM, fN, fT, fR, fF, fK, fV3, fE3, th)) → va_S Ar s.heap H locs → ∀ (ls : Array Slot), lv_has ls 5 [(0, .ref (ad 0)), (1, .int (nI n)), (2, .int (nI j))] → W p l e R s m args below meth c H locs 0 0 Q (F0 m 71 ls []) := by
  intro fuel
  induction fuel with
  | zero => intro j fV3 fE3 hfu hj hV hE hI; exact absurd hfu (by omega)
  | succ fuel ih =>
    intro j fV3 fE3 hfu hj hV hE hI H locs hP hD hS ls hl
    have h60 := hg.2.1
    have h12 := (m_mv hg hm hn).2
    refine lv_iload_n hx hb dX1_learn_71 rfl (lv_at hl 2 rfl) ?_
    refine lv_aload_n hx hb dX1_learn_72 rfl (lv_at hl 0 rfl) ?_
    refine lv_iload_n hx hb dX1_learn_73 rfl (lv_at hl 1 rfl) ?_
    refine g_calli ⟨hx, hb, hml, hown, hw⟩ (c_X1_joint l dC dI ad cz ci cj H.size (nI c0) fO fG fH fM fN fT fR fF fK fV3 fE3 th n (by omega)) (cwV 1 hw gv_X1_X1_joint rfl rfl rfl (by decide +kernel) ⟨Nat.le_trans (Nat.le_of_ble_eq_true rfl) hR1, Nat.le_trans (Nat.le_of_ble_eq_true rfl) hR2⟩) hK hP hD hS hA (ci := 1) (q0 := 0) rfl rfl rfl hl.1 rfl (Nat.le_of_ble_eq_true rfl) dX1_learn_74 ⟨Nat.zero_le _, Nat.zero_le _⟩ (fun r_1 un H locs hq hP hD hS => ?_)
    obtain ⟨rfl, hq⟩ := hq
    have hP : va_P (dC, dI) vwCl (mw ad cz ci cj ((nI c0), fO, fG, fH, fM, fN, fT, fR, fF, fK, fV3, fE3, th)) H := hP
    have hD : va_D Ar (mw ad cz ci cj ((nI c0), fO, fG, fH, fM, fN, fT, fR, fF, fK, fV3, fE3, th)) := hD
    refine x_topi (y := nI (gmv sO sA sB n)) (by rw [hq]; exact (m_mv hg hm hn).1) ?_
    refine lv_icmp_ge (tgt := 214) hx hb dX1_learn_77 (by decide) (fun c_2 => ?_) (fun c_2 => ?_)
    · exact kx fV3 fE3 hV hE (fun h => by have e := (k_eq hj c_2 (by omega)); subst e; exact m_lx hg hnd hr hm (hI h).1 (hI h).2.1 (hI h).2.2) _ _ hP hD hS _ (lv_sub hl [0] rfl)
    · have hlt : j < gmv sO sA sB n := k_lt c_2 (by omega)
      refine lv_aload_n hx hb dX1_learn_80 rfl (lv_at hl 0 rfl) ?_
      refine va_get (D := (dC, dI)) (ci := 1) (v := .ref (ad 9)) (C := RX1) (T := TX1) (N := 13) hx hb hw in_X1 hown hK hP 0 rfl rfl 9 (by decide) (hw _ m_8_33) (fun _ h9 => h9) rfl dX1_learn_81 ?_
      refine lv_iload_n hx hb dX1_learn_84 rfl (lv_at hl 1 rfl) ?_
      refine va_zald hx hb hK hP 9 0 rfl rfl (vp_in_nI (by omega) (by decide)) dX1_learn_85 ?_
      refine x_topi (y := fK n) (by rw [nI_clamp (by omega)]) ?_
      refine lv_if_eq (tgt := 214) hx hb dX1_learn_86 (by decide) (fun cb_3 => ?_) (fun cb_3 => ?_)
      · exact kx fV3 fE3 hV hE (fun h => absurd cb_3 h) _ _ hP hD hS _ (lv_sub hl [0] rfl)
      · have hkk := cb_3
        have hre := s_re_ed (g_sok hg) hr hlt
        have hgl : glen c0 sO sA sB sT (gtg sT n j) + 1 < 100 := (by have := m_gl hg hnd hre; omega)
        have hy : (fV3 (gtg sT n j)).toInt = gval c0 sO sA sB sT (gtg sT n j) := by rw [hV _ (m_ne hnd hr hlt)]; exact (hC hkk j hlt).1
        have hgb := g_val_b hg hnd hre
        refine lv_aload_n hx hb dX1_learn_89 rfl (lv_at hl 0 rfl) ?_
        refine va_get (D := (dC, dI)) (ci := 1) (v := .ref (ad 6)) (C := RX1) (T := TX1) (N := 13) hx hb hw in_X1 hown hK hP 0 rfl rfl 6 (by decide) (hw _ m_8_30) (fun _ h9 => h9) rfl dX1_learn_90 ?_
        refine lv_bipush (v := 12) hx hb dX1_learn_93 (by decide) ?_
        refine lv_iload_n hx hb dX1_learn_95 rfl (lv_at hl 1 rfl) ?_
        refine lv_imul hx hb dX1_learn_96 ?_
        refine x_topi (y := nI (n * 12)) ((pk_mul 12 n).trans (by rw [Nat.mul_comm])) ?_
        refine lv_iload_n hx hb dX1_learn_97 rfl (lv_at hl 2 rfl) ?_
        refine lv_iadd hx hb dX1_learn_98 ?_
        refine x_topi (y := nI (n * 12 + j)) (nI_add _ _) ?_
        have ht := m_tg hg hm hn hlt
        refine va_iald hx hb hK hP 6 1 rfl rfl (vp_in_nI (by omega) (by decide)) dX1_learn_99 ?_
        refine x_topi (y := fT (n * 12 + j)) (by rw [nI_clamp (by omega)]) ?_
        refine x_topi (y := nI (gtg sT n j)) (ht.1) ?_
        refine lv_istore_n (lv' := [(3, .int (nI (gtg sT n j))), (0, .ref (ad 0)), (1, .int (nI n)), (2, .int (nI j))]) hx hb dX1_learn_100 rfl hl (by decide) rfl (fun ls hl => ?_)
        refine lv_aload_n hx hb dX1_learn_101 rfl (lv_at hl 1 rfl) ?_
        refine va_get (D := (dC, dI)) (ci := 1) (v := .ref (ad 4)) (C := RX1) (T := TX1) (N := 13) hx hb hw in_X1 hown hK hP 0 rfl rfl 4 (by decide) (hw _ m_8_28) (fun _ h9 => h9) rfl dX1_learn_102 ?_
        refine lv_iload_n hx hb dX1_learn_105 rfl (lv_at hl 2 rfl) ?_
        refine va_iald hx hb hK hP 4 1 rfl rfl (vp_in_nI (by omega) (by decide)) dX1_learn_106 ?_
        refine x_topi (y := fM n) (by rw [nI_clamp (by omega)]) ?_
        refine lv_iconst (v := 1) hx hb dX1_learn_107 (by decide) ?_
        refine lv_icmp_le (tgt := 134) hx hb dX1_learn_108 (by decide) (fun cbb_4 => ?_) (fun cbb_4 => ?_)
        · have hf := m_gff hm hn hlt cbb_4
          refine lv_aload_n hx hb dX1_learn_134 rfl (lv_at hl 1 rfl) ?_
          refine va_get (D := (dC, dI)) (ci := 1) (v := .ref (ad 10)) (C := RX1) (T := TX1) (N := 13) hx hb hw in_X1 hown hK hP 0 rfl rfl 10 (by decide) (hw _ m_8_34) (fun _ h9 => h9) rfl dX1_learn_135 ?_
          refine lv_iload_n hx hb dX1_learn_138 rfl (lv_at hl 0 rfl) ?_
          refine va_iald hx hb hK hP 10 1 rfl rfl (vp_in_nI (by omega) (by decide)) dX1_learn_139 ?_
          refine x_topi (y := fV3 (gtg sT n j)) (by rw [nI_clamp (by omega)]) ?_
          refine lv_aload_n hx hb dX1_learn_140 rfl (lv_at hl 1 rfl) ?_
          refine va_get (D := (dC, dI)) (ci := 1) (v := .ref (ad 10)) (C := RX1) (T := TX1) (N := 13) hx hb hw in_X1 hown hK hP 0 rfl rfl 10 (by decide) (hw _ m_8_34) (fun _ h9 => h9) rfl dX1_learn_141 ?_
          refine lv_iload_n hx hb dX1_learn_144 rfl (lv_at hl 2 rfl) ?_
          refine va_iald hx hb hK hP 10 1 rfl rfl (vp_in_nI (by omega) (by decide)) dX1_learn_145 ?_
          refine x_topi (y := fV3 n) (by rw [nI_clamp (by omega)]) ?_
          refine lv_icmp_ge (tgt := 153) hx hb dX1_learn_146 (by decide) (fun cbba_5 => ?_) (fun cbba_5 => ?_)
          · refine lv_iconst (v := 0) hx hb dX1_learn_153 (by decide) ?_
            refine lv_istore (lv' := [(4, .int 0), (3, .int (nI (gtg sT n j))), (0, .ref (ad 0)), (1, .int (nI n)), (2, .int (nI j))]) hx hb dX1_learn_154 hl (by decide) rfl (fun ls hl => ?_)
            refine lv_iload_n hx hb dX1_learn_156 rfl (lv_at hl 4 rfl) ?_
            refine lv_if_eq (tgt := 165) hx hb dX1_learn_157 (by decide) (fun cbbaa_6 => ?_) (fun cbbaa_6 => ?_)
            · refine lv_aload_n hx hb dX1_learn_165 rfl (lv_at hl 2 rfl) ?_
              refine va_get (D := (dC, dI)) (ci := 1) (v := .ref (ad 10)) (C := RX1) (T := TX1) (N := 13) hx hb hw in_X1 hown hK hP 0 rfl rfl 10 (by decide) (hw _ m_8_34) (fun _ h9 => h9) rfl dX1_learn_166 ?_
              refine lv_iload_n hx hb dX1_learn_169 rfl (lv_at hl 3 rfl) ?_
              refine lv_aload_n hx hb dX1_learn_170 rfl (lv_at hl 2 rfl) ?_
              refine va_get (D := (dC, dI)) (ci := 1) (v := .ref (ad 10)) (C := RX1) (T := TX1) (N := 13) hx hb hw in_X1 hown hK hP 0 rfl rfl 10 (by decide) (hw _ m_8_34) (fun _ h9 => h9) rfl dX1_learn_171 ?_
              refine lv_iload_n hx hb dX1_learn_174 rfl (lv_at hl 1 rfl) ?_
              refine va_iald hx hb hK hP 10 1 rfl rfl (vp_in_nI (by omega) (by decide)) dX1_learn_175 ?_
              refine x_topi (y := fV3 (gtg sT n j)) (by rw [nI_clamp (by omega)]) ?_
              refine va_iast hx hb hK hP hD hS 10 1 rfl rfl (vp_in_nI (by omega) (by decide)) dX1_learn_176 (fun H locs hP hD hS => ?_)
              rw [nI_clamp (by omega)] at hP hD
              have hP : va_P (dC, dI) vwCl (mw ad cz ci cj ((nI c0), fO, fG, fH, fM, fN, fT, fR, fF, fK, (upd fV3 n (fV3 (gtg sT n j))), fE3, th)) H := hP
              have hD : va_D Ar (mw ad cz ci cj ((nI c0), fO, fG, fH, fM, fN, fT, fR, fF, fK, (upd fV3 n (fV3 (gtg sT n j))), fE3, th)) := hD
              refine lv_aload_n hx hb dX1_learn_177 rfl (lv_at hl 2 rfl) ?_
              refine va_get (D := (dC, dI)) (ci := 1) (v := .ref (ad 11)) (C := RX1) (T := TX1) (N := 13) hx hb hw in_X1 hown hK hP 0 rfl rfl 11 (by decide) (hw _ m_8_35) (fun _ h9 => h9) rfl dX1_learn_178 ?_
              refine lv_iload_n hx hb dX1_learn_181 rfl (lv_at hl 1 rfl) ?_
              refine va_iald hx hb hK hP 11 1 rfl rfl (vp_in_nI (by omega) (by decide)) dX1_learn_182 ?_
              refine x_topi (y := fE3 (gtg sT n j)) (by rw [nI_clamp (by omega)]) ?_
              refine lv_iconst (v := 1) hx hb dX1_learn_183 (by decide) ?_
              refine lv_iadd hx hb dX1_learn_184 ?_
              refine lv_aload_n hx hb dX1_learn_185 rfl (lv_at hl 2 rfl) ?_
              refine va_get (D := (dC, dI)) (ci := 1) (v := .ref (ad 11)) (C := RX1) (T := TX1) (N := 13) hx hb hw in_X1 hown hK hP 0 rfl rfl 11 (by decide) (hw _ m_8_35) (fun _ h9 => h9) rfl dX1_learn_186 ?_
              refine lv_iload_n hx hb dX1_learn_189 rfl (lv_at hl 3 rfl) ?_
              refine va_iald hx hb hK hP 11 1 rfl rfl (vp_in_nI (by omega) (by decide)) dX1_learn_190 ?_
              refine x_topi (y := fE3 n) (by rw [nI_clamp (by omega)]) ?_
              refine lv_icmp_le (tgt := 208) hx hb dX1_learn_191 (by decide) (fun cbbaaa_7 => ?_) (fun cbbaaa_7 => ?_)
              · refine lv_iinc (v := (nI (j + 1))) (lv' := [(2, .int (nI (j + 1))), (4, .int 0), (3, .int (nI (gtg sT n j))), (0, .ref (ad 0)), (1, .int (nI n))]) hx hb dX1_learn_208 hl (k := 4) rfl (nI_1 j) (by decide) rfl (fun ls hl => ?_)
                refine lv_goto (tgt := 71) hx hb dX1_learn_211 (by decide) ?_
                exact ih (j + 1) (upd fV3 n (fV3 (gtg sT n j))) fE3 (by omega) (by omega) (fun m q => (pk_un q).trans (hV m q)) hE (fun _ => ⟨m_e1 (hI hkk).1 (by rw [hE _ (m_ne hnd hr hlt), (hC hkk j hlt).2]; exact nI_1 _) cbbaaa_7 (m_wl hg hnd hr (by omega)) hgl, (by rw [pk_us]; exact m_v0 (k_e0 (by omega) cbbaa_6) hy hgb), fun q => absurd q (by omega)⟩) _ _ hP hD hS _ (lv_sub hl [3, 4, 0] rfl)
              · refine lv_aload_n hx hb dX1_learn_194 rfl (lv_at hl 2 rfl) ?_
                refine va_get (D := (dC, dI)) (ci := 1) (v := .ref (ad 11)) (C := RX1) (T := TX1) (N := 13) hx hb hw in_X1 hown hK hP 0 rfl rfl 11 (by decide) (hw _ m_8_35) (fun _ h9 => h9) rfl dX1_learn_195 ?_
                refine lv_iload_n hx hb dX1_learn_198 rfl (lv_at hl 3 rfl) ?_
                refine lv_aload_n hx hb dX1_learn_199 rfl (lv_at hl 2 rfl) ?_
                refine va_get (D := (dC, dI)) (ci := 1) (v := .ref (ad 11)) (C := RX1) (T := TX1) (N := 13) hx hb hw in_X1 hown hK hP 0 rfl rfl 11 (by decide) (hw _ m_8_35) (fun _ h9 => h9) rfl dX1_learn_200 ?_
                refine lv_iload_n hx hb dX1_learn_203 rfl (lv_at hl 1 rfl) ?_
                refine va_iald hx hb hK hP 11 1 rfl rfl (vp_in_nI (by omega) (by decide)) dX1_learn_204 ?_
                refine x_topi (y := fE3 (gtg sT n j)) (by rw [nI_clamp (by omega)]) ?_
                refine lv_iconst (v := 1) hx hb dX1_learn_205 (by decide) ?_
                refine lv_iadd hx hb dX1_learn_206 ?_
                refine va_iast hx hb hK hP hD hS 11 1 rfl rfl (vp_in_nI (by omega) (by decide)) dX1_learn_207 (fun H locs hP hD hS => ?_)
                rw [nI_clamp (by omega)] at hP hD
                have hP : va_P (dC, dI) vwCl (mw ad cz ci cj ((nI c0), fO, fG, fH, fM, fN, fT, fR, fF, fK, (upd fV3 n (fV3 (gtg sT n j))), (upd fE3 n ((fE3 (gtg sT n j)) + 1)), th)) H := hP
                have hD : va_D Ar (mw ad cz ci cj ((nI c0), fO, fG, fH, fM, fN, fT, fR, fF, fK, (upd fV3 n (fV3 (gtg sT n j))), (upd fE3 n ((fE3 (gtg sT n j)) + 1)), th)) := hD
                refine lv_iinc (v := (nI (j + 1))) (lv' := [(2, .int (nI (j + 1))), (4, .int 0), (3, .int (nI (gtg sT n j))), (0, .ref (ad 0)), (1, .int (nI n))]) hx hb dX1_learn_208 hl (k := 4) rfl (nI_1 j) (by decide) rfl (fun ls hl => ?_)
                refine lv_goto (tgt := 71) hx hb dX1_learn_211 (by decide) ?_
                exact ih (j + 1) (upd fV3 n (fV3 (gtg sT n j))) (upd fE3 n ((fE3 (gtg sT n j)) + 1)) (by omega) (by omega) (fun m q => (pk_un q).trans (hV m q)) (fun m q => (pk_un q).trans (hE m q)) (fun _ => ⟨by rw [pk_us]; exact m_e2 (hI hkk).1 (by rw [hE _ (m_ne hnd hr hlt), (hC hkk j hlt).2]; exact nI_1 _) cbbaaa_7 (m_wl hg hnd hr (by omega)) hgl, (by rw [pk_us]; exact m_v0 (k_e0 (by omega) cbbaa_6) hy hgb), fun q => absurd q (by omega)⟩) _ _ hP hD hS _ (lv_sub hl [3, 4, 0] rfl)
            · refine lv_iload hx hb dX1_learn_160 (lv_at hl 0 rfl) ?_
              refine lv_if_eq (tgt := 177) hx hb dX1_learn_162 (by decide) (fun cbbaab_7 => ?_) (fun cbbaab_7 => ?_)
              · refine lv_aload_n hx hb dX1_learn_177 rfl (lv_at hl 2 rfl) ?_
                refine va_get (D := (dC, dI)) (ci := 1) (v := .ref (ad 11)) (C := RX1) (T := TX1) (N := 13) hx hb hw in_X1 hown hK hP 0 rfl rfl 11 (by decide) (hw _ m_8_35) (fun _ h9 => h9) rfl dX1_learn_178 ?_
                refine lv_iload_n hx hb dX1_learn_181 rfl (lv_at hl 1 rfl) ?_
                refine va_iald hx hb hK hP 11 1 rfl rfl (vp_in_nI (by omega) (by decide)) dX1_learn_182 ?_
                refine x_topi (y := fE3 (gtg sT n j)) (by rw [nI_clamp (by omega)]) ?_
                refine lv_iconst (v := 1) hx hb dX1_learn_183 (by decide) ?_
                refine lv_iadd hx hb dX1_learn_184 ?_
                refine lv_aload_n hx hb dX1_learn_185 rfl (lv_at hl 2 rfl) ?_
                refine va_get (D := (dC, dI)) (ci := 1) (v := .ref (ad 11)) (C := RX1) (T := TX1) (N := 13) hx hb hw in_X1 hown hK hP 0 rfl rfl 11 (by decide) (hw _ m_8_35) (fun _ h9 => h9) rfl dX1_learn_186 ?_
                refine lv_iload_n hx hb dX1_learn_189 rfl (lv_at hl 3 rfl) ?_
                refine va_iald hx hb hK hP 11 1 rfl rfl (vp_in_nI (by omega) (by decide)) dX1_learn_190 ?_
                refine x_topi (y := fE3 n) (by rw [nI_clamp (by omega)]) ?_
                refine lv_icmp_le (tgt := 208) hx hb dX1_learn_191 (by decide) (fun cbbaaba_8 => ?_) (fun cbbaaba_8 => ?_)
                · refine lv_iinc (v := (nI (j + 1))) (lv' := [(2, .int (nI (j + 1))), (4, .int 0), (3, .int (nI (gtg sT n j))), (0, .ref (ad 0)), (1, .int (nI n))]) hx hb dX1_learn_208 hl (k := 4) rfl (nI_1 j) (by decide) rfl (fun ls hl => ?_)
                  refine lv_goto (tgt := 71) hx hb dX1_learn_211 (by decide) ?_
                  exact ih (j + 1) fV3 fE3 (by omega) (by omega) hV hE (fun _ => ⟨m_e1 (hI hkk).1 (by rw [hE _ (m_ne hnd hr hlt), (hC hkk j hlt).2]; exact nI_1 _) cbbaaba_8 (m_wl hg hnd hr (by omega)) hgl, (m_v4 hf (hI hkk).2.1 (k_n0 cbbaa_6) hy cbba_5), fun q => absurd q (by omega)⟩) _ _ hP hD hS _ (lv_sub hl [3, 4, 0] rfl)
                · refine lv_aload_n hx hb dX1_learn_194 rfl (lv_at hl 2 rfl) ?_
                  refine va_get (D := (dC, dI)) (ci := 1) (v := .ref (ad 11)) (C := RX1) (T := TX1) (N := 13) hx hb hw in_X1 hown hK hP 0 rfl rfl 11 (by decide) (hw _ m_8_35) (fun _ h9 => h9) rfl dX1_learn_195 ?_
                  refine lv_iload_n hx hb dX1_learn_198 rfl (lv_at hl 3 rfl) ?_
                  refine lv_aload_n hx hb dX1_learn_199 rfl (lv_at hl 2 rfl) ?_
                  refine va_get (D := (dC, dI)) (ci := 1) (v := .ref (ad 11)) (C := RX1) (T := TX1) (N := 13) hx hb hw in_X1 hown hK hP 0 rfl rfl 11 (by decide) (hw _ m_8_35) (fun _ h9 => h9) rfl dX1_learn_200 ?_
                  refine lv_iload_n hx hb dX1_learn_203 rfl (lv_at hl 1 rfl) ?_
                  refine va_iald hx hb hK hP 11 1 rfl rfl (vp_in_nI (by omega) (by decide)) dX1_learn_204 ?_
                  refine x_topi (y := fE3 (gtg sT n j)) (by rw [nI_clamp (by omega)]) ?_
                  refine lv_iconst (v := 1) hx hb dX1_learn_205 (by decide) ?_
                  refine lv_iadd hx hb dX1_learn_206 ?_
                  refine va_iast hx hb hK hP hD hS 11 1 rfl rfl (vp_in_nI (by omega) (by decide)) dX1_learn_207 (fun H locs hP hD hS => ?_)
                  rw [nI_clamp (by omega)] at hP hD
                  have hP : va_P (dC, dI) vwCl (mw ad cz ci cj ((nI c0), fO, fG, fH, fM, fN, fT, fR, fF, fK, fV3, (upd fE3 n ((fE3 (gtg sT n j)) + 1)), th)) H := hP
                  have hD : va_D Ar (mw ad cz ci cj ((nI c0), fO, fG, fH, fM, fN, fT, fR, fF, fK, fV3, (upd fE3 n ((fE3 (gtg sT n j)) + 1)), th)) := hD
                  refine lv_iinc (v := (nI (j + 1))) (lv' := [(2, .int (nI (j + 1))), (4, .int 0), (3, .int (nI (gtg sT n j))), (0, .ref (ad 0)), (1, .int (nI n))]) hx hb dX1_learn_208 hl (k := 4) rfl (nI_1 j) (by decide) rfl (fun ls hl => ?_)
                  refine lv_goto (tgt := 71) hx hb dX1_learn_211 (by decide) ?_
                  exact ih (j + 1) fV3 (upd fE3 n ((fE3 (gtg sT n j)) + 1)) (by omega) (by omega) hV (fun m q => (pk_un q).trans (hE m q)) (fun _ => ⟨by rw [pk_us]; exact m_e2 (hI hkk).1 (by rw [hE _ (m_ne hnd hr hlt), (hC hkk j hlt).2]; exact nI_1 _) cbbaaba_8 (m_wl hg hnd hr (by omega)) hgl, (m_v4 hf (hI hkk).2.1 (k_n0 cbbaa_6) hy cbba_5), fun q => absurd q (by omega)⟩) _ _ hP hD hS _ (lv_sub hl [3, 4, 0] rfl)
              · exact absurd rfl cbbaab_7
          · refine lv_iconst (v := 1) hx hb dX1_learn_149 (by decide) ?_
            refine lv_goto (tgt := 154) hx hb dX1_learn_150 (by decide) ?_
            refine lv_istore (lv' := [(4, .int 1), (3, .int (nI (gtg sT n j))), (0, .ref (ad 0)), (1, .int (nI n)), (2, .int (nI j))]) hx hb dX1_learn_154 hl (by decide) rfl (fun ls hl => ?_)
            refine lv_iload_n hx hb dX1_learn_156 rfl (lv_at hl 4 rfl) ?_
            refine lv_if_eq (tgt := 165) hx hb dX1_learn_157 (by decide) (fun cbbab_6 => ?_) (fun cbbab_6 => ?_)
            · refine lv_aload_n hx hb dX1_learn_165 rfl (lv_at hl 2 rfl) ?_
              refine va_get (D := (dC, dI)) (ci := 1) (v := .ref (ad 10)) (C := RX1) (T := TX1) (N := 13) hx hb hw in_X1 hown hK hP 0 rfl rfl 10 (by decide) (hw _ m_8_34) (fun _ h9 => h9) rfl dX1_learn_166 ?_
              refine lv_iload_n hx hb dX1_learn_169 rfl (lv_at hl 3 rfl) ?_
              refine lv_aload_n hx hb dX1_learn_170 rfl (lv_at hl 2 rfl) ?_
              refine va_get (D := (dC, dI)) (ci := 1) (v := .ref (ad 10)) (C := RX1) (T := TX1) (N := 13) hx hb hw in_X1 hown hK hP 0 rfl rfl 10 (by decide) (hw _ m_8_34) (fun _ h9 => h9) rfl dX1_learn_171 ?_
              refine lv_iload_n hx hb dX1_learn_174 rfl (lv_at hl 1 rfl) ?_
              refine va_iald hx hb hK hP 10 1 rfl rfl (vp_in_nI (by omega) (by decide)) dX1_learn_175 ?_
              refine x_topi (y := fV3 (gtg sT n j)) (by rw [nI_clamp (by omega)]) ?_
              refine va_iast hx hb hK hP hD hS 10 1 rfl rfl (vp_in_nI (by omega) (by decide)) dX1_learn_176 (fun H locs hP hD hS => ?_)
              rw [nI_clamp (by omega)] at hP hD
              have hP : va_P (dC, dI) vwCl (mw ad cz ci cj ((nI c0), fO, fG, fH, fM, fN, fT, fR, fF, fK, (upd fV3 n (fV3 (gtg sT n j))), fE3, th)) H := hP
              have hD : va_D Ar (mw ad cz ci cj ((nI c0), fO, fG, fH, fM, fN, fT, fR, fF, fK, (upd fV3 n (fV3 (gtg sT n j))), fE3, th)) := hD
              refine lv_aload_n hx hb dX1_learn_177 rfl (lv_at hl 2 rfl) ?_
              refine va_get (D := (dC, dI)) (ci := 1) (v := .ref (ad 11)) (C := RX1) (T := TX1) (N := 13) hx hb hw in_X1 hown hK hP 0 rfl rfl 11 (by decide) (hw _ m_8_35) (fun _ h9 => h9) rfl dX1_learn_178 ?_
              refine lv_iload_n hx hb dX1_learn_181 rfl (lv_at hl 1 rfl) ?_
              refine va_iald hx hb hK hP 11 1 rfl rfl (vp_in_nI (by omega) (by decide)) dX1_learn_182 ?_
              refine x_topi (y := fE3 (gtg sT n j)) (by rw [nI_clamp (by omega)]) ?_
              refine lv_iconst (v := 1) hx hb dX1_learn_183 (by decide) ?_
              refine lv_iadd hx hb dX1_learn_184 ?_
              refine lv_aload_n hx hb dX1_learn_185 rfl (lv_at hl 2 rfl) ?_
              refine va_get (D := (dC, dI)) (ci := 1) (v := .ref (ad 11)) (C := RX1) (T := TX1) (N := 13) hx hb hw in_X1 hown hK hP 0 rfl rfl 11 (by decide) (hw _ m_8_35) (fun _ h9 => h9) rfl dX1_learn_186 ?_
              refine lv_iload_n hx hb dX1_learn_189 rfl (lv_at hl 3 rfl) ?_
              refine va_iald hx hb hK hP 11 1 rfl rfl (vp_in_nI (by omega) (by decide)) dX1_learn_190 ?_
              refine x_topi (y := fE3 n) (by rw [nI_clamp (by omega)]) ?_
              refine lv_icmp_le (tgt := 208) hx hb dX1_learn_191 (by decide) (fun cbbaba_7 => ?_) (fun cbbaba_7 => ?_)
              · refine lv_iinc (v := (nI (j + 1))) (lv' := [(2, .int (nI (j + 1))), (4, .int 1), (3, .int (nI (gtg sT n j))), (0, .ref (ad 0)), (1, .int (nI n))]) hx hb dX1_learn_208 hl (k := 4) rfl (nI_1 j) (by decide) rfl (fun ls hl => ?_)
                refine lv_goto (tgt := 71) hx hb dX1_learn_211 (by decide) ?_
                exact ih (j + 1) (upd fV3 n (fV3 (gtg sT n j))) fE3 (by omega) (by omega) (fun m q => (pk_un q).trans (hV m q)) hE (fun _ => ⟨m_e1 (hI hkk).1 (by rw [hE _ (m_ne hnd hr hlt), (hC hkk j hlt).2]; exact nI_1 _) cbbaba_7 (m_wl hg hnd hr (by omega)) hgl, (by rw [pk_us]; exact m_v0 (k_e0 (by omega) cbbab_6) hy hgb), fun q => absurd q (by omega)⟩) _ _ hP hD hS _ (lv_sub hl [3, 4, 0] rfl)
              · refine lv_aload_n hx hb dX1_learn_194 rfl (lv_at hl 2 rfl) ?_
                refine va_get (D := (dC, dI)) (ci := 1) (v := .ref (ad 11)) (C := RX1) (T := TX1) (N := 13) hx hb hw in_X1 hown hK hP 0 rfl rfl 11 (by decide) (hw _ m_8_35) (fun _ h9 => h9) rfl dX1_learn_195 ?_
                refine lv_iload_n hx hb dX1_learn_198 rfl (lv_at hl 3 rfl) ?_
                refine lv_aload_n hx hb dX1_learn_199 rfl (lv_at hl 2 rfl) ?_
                refine va_get (D := (dC, dI)) (ci := 1) (v := .ref (ad 11)) (C := RX1) (T := TX1) (N := 13) hx hb hw in_X1 hown hK hP 0 rfl rfl 11 (by decide) (hw _ m_8_35) (fun _ h9 => h9) rfl dX1_learn_200 ?_
                refine lv_iload_n hx hb dX1_learn_203 rfl (lv_at hl 1 rfl) ?_
                refine va_iald hx hb hK hP 11 1 rfl rfl (vp_in_nI (by omega) (by decide)) dX1_learn_204 ?_
                refine x_topi (y := fE3 (gtg sT n j)) (by rw [nI_clamp (by omega)]) ?_
                refine lv_iconst (v := 1) hx hb dX1_learn_205 (by decide) ?_
                refine lv_iadd hx hb dX1_learn_206 ?_
                refine va_iast hx hb hK hP hD hS 11 1 rfl rfl (vp_in_nI (by omega) (by decide)) dX1_learn_207 (fun H locs hP hD hS => ?_)
                rw [nI_clamp (by omega)] at hP hD
                have hP : va_P (dC, dI) vwCl (mw ad cz ci cj ((nI c0), fO, fG, fH, fM, fN, fT, fR, fF, fK, (upd fV3 n (fV3 (gtg sT n j))), (upd fE3 n ((fE3 (gtg sT n j)) + 1)), th)) H := hP
                have hD : va_D Ar (mw ad cz ci cj ((nI c0), fO, fG, fH, fM, fN, fT, fR, fF, fK, (upd fV3 n (fV3 (gtg sT n j))), (upd fE3 n ((fE3 (gtg sT n j)) + 1)), th)) := hD
                refine lv_iinc (v := (nI (j + 1))) (lv' := [(2, .int (nI (j + 1))), (4, .int 1), (3, .int (nI (gtg sT n j))), (0, .ref (ad 0)), (1, .int (nI n))]) hx hb dX1_learn_208 hl (k := 4) rfl (nI_1 j) (by decide) rfl (fun ls hl => ?_)
                refine lv_goto (tgt := 71) hx hb dX1_learn_211 (by decide) ?_
                exact ih (j + 1) (upd fV3 n (fV3 (gtg sT n j))) (upd fE3 n ((fE3 (gtg sT n j)) + 1)) (by omega) (by omega) (fun m q => (pk_un q).trans (hV m q)) (fun m q => (pk_un q).trans (hE m q)) (fun _ => ⟨by rw [pk_us]; exact m_e2 (hI hkk).1 (by rw [hE _ (m_ne hnd hr hlt), (hC hkk j hlt).2]; exact nI_1 _) cbbaba_7 (m_wl hg hnd hr (by omega)) hgl, (by rw [pk_us]; exact m_v0 (k_e0 (by omega) cbbab_6) hy hgb), fun q => absurd q (by omega)⟩) _ _ hP hD hS _ (lv_sub hl [3, 4, 0] rfl)
            · refine lv_iload hx hb dX1_learn_160 (lv_at hl 0 rfl) ?_
              refine lv_if_eq (tgt := 177) hx hb dX1_learn_162 (by decide) (fun cbbabb_7 => ?_) (fun cbbabb_7 => ?_)
              · exact absurd cbbabb_7 (by decide)
              · refine lv_aload_n hx hb dX1_learn_165 rfl (lv_at hl 2 rfl) ?_
                refine va_get (D := (dC, dI)) (ci := 1) (v := .ref (ad 10)) (C := RX1) (T := TX1) (N := 13) hx hb hw in_X1 hown hK hP 0 rfl rfl 10 (by decide) (hw _ m_8_34) (fun _ h9 => h9) rfl dX1_learn_166 ?_
                refine lv_iload_n hx hb dX1_learn_169 rfl (lv_at hl 3 rfl) ?_
                refine lv_aload_n hx hb dX1_learn_170 rfl (lv_at hl 2 rfl) ?_
                refine va_get (D := (dC, dI)) (ci := 1) (v := .ref (ad 10)) (C := RX1) (T := TX1) (N := 13) hx hb hw in_X1 hown hK hP 0 rfl rfl 10 (by decide) (hw _ m_8_34) (fun _ h9 => h9) rfl dX1_learn_171 ?_
                refine lv_iload_n hx hb dX1_learn_174 rfl (lv_at hl 1 rfl) ?_
                refine va_iald hx hb hK hP 10 1 rfl rfl (vp_in_nI (by omega) (by decide)) dX1_learn_175 ?_
                refine x_topi (y := fV3 (gtg sT n j)) (by rw [nI_clamp (by omega)]) ?_
                refine va_iast hx hb hK hP hD hS 10 1 rfl rfl (vp_in_nI (by omega) (by decide)) dX1_learn_176 (fun H locs hP hD hS => ?_)
                rw [nI_clamp (by omega)] at hP hD
                have hP : va_P (dC, dI) vwCl (mw ad cz ci cj ((nI c0), fO, fG, fH, fM, fN, fT, fR, fF, fK, (upd fV3 n (fV3 (gtg sT n j))), fE3, th)) H := hP
                have hD : va_D Ar (mw ad cz ci cj ((nI c0), fO, fG, fH, fM, fN, fT, fR, fF, fK, (upd fV3 n (fV3 (gtg sT n j))), fE3, th)) := hD
                refine lv_aload_n hx hb dX1_learn_177 rfl (lv_at hl 2 rfl) ?_
                refine va_get (D := (dC, dI)) (ci := 1) (v := .ref (ad 11)) (C := RX1) (T := TX1) (N := 13) hx hb hw in_X1 hown hK hP 0 rfl rfl 11 (by decide) (hw _ m_8_35) (fun _ h9 => h9) rfl dX1_learn_178 ?_
                refine lv_iload_n hx hb dX1_learn_181 rfl (lv_at hl 1 rfl) ?_
                refine va_iald hx hb hK hP 11 1 rfl rfl (vp_in_nI (by omega) (by decide)) dX1_learn_182 ?_
                refine x_topi (y := fE3 (gtg sT n j)) (by rw [nI_clamp (by omega)]) ?_
                refine lv_iconst (v := 1) hx hb dX1_learn_183 (by decide) ?_
                refine lv_iadd hx hb dX1_learn_184 ?_
                refine lv_aload_n hx hb dX1_learn_185 rfl (lv_at hl 2 rfl) ?_
                refine va_get (D := (dC, dI)) (ci := 1) (v := .ref (ad 11)) (C := RX1) (T := TX1) (N := 13) hx hb hw in_X1 hown hK hP 0 rfl rfl 11 (by decide) (hw _ m_8_35) (fun _ h9 => h9) rfl dX1_learn_186 ?_
                refine lv_iload_n hx hb dX1_learn_189 rfl (lv_at hl 3 rfl) ?_
                refine va_iald hx hb hK hP 11 1 rfl rfl (vp_in_nI (by omega) (by decide)) dX1_learn_190 ?_
                refine x_topi (y := fE3 n) (by rw [nI_clamp (by omega)]) ?_
                refine lv_icmp_le (tgt := 208) hx hb dX1_learn_191 (by decide) (fun cbbabbb_8 => ?_) (fun cbbabbb_8 => ?_)
                · refine lv_iinc (v := (nI (j + 1))) (lv' := [(2, .int (nI (j + 1))), (4, .int 1), (3, .int (nI (gtg sT n j))), (0, .ref (ad 0)), (1, .int (nI n))]) hx hb dX1_learn_208 hl (k := 4) rfl (nI_1 j) (by decide) rfl (fun ls hl => ?_)
                  refine lv_goto (tgt := 71) hx hb dX1_learn_211 (by decide) ?_
                  exact ih (j + 1) (upd fV3 n (fV3 (gtg sT n j))) fE3 (by omega) (by omega) (fun m q => (pk_un q).trans (hV m q)) hE (fun _ => ⟨m_e1 (hI hkk).1 (by rw [hE _ (m_ne hnd hr hlt), (hC hkk j hlt).2]; exact nI_1 _) cbbabbb_8 (m_wl hg hnd hr (by omega)) hgl, (by rw [pk_us]; exact m_v3 hf (hI hkk).2.1 (k_n0 cbbab_6) hy cbba_5), fun q => absurd q (by omega)⟩) _ _ hP hD hS _ (lv_sub hl [3, 4, 0] rfl)
                · refine lv_aload_n hx hb dX1_learn_194 rfl (lv_at hl 2 rfl) ?_
                  refine va_get (D := (dC, dI)) (ci := 1) (v := .ref (ad 11)) (C := RX1) (T := TX1) (N := 13) hx hb hw in_X1 hown hK hP 0 rfl rfl 11 (by decide) (hw _ m_8_35) (fun _ h9 => h9) rfl dX1_learn_195 ?_
                  refine lv_iload_n hx hb dX1_learn_198 rfl (lv_at hl 3 rfl) ?_
                  refine lv_aload_n hx hb dX1_learn_199 rfl (lv_at hl 2 rfl) ?_
                  refine va_get (D := (dC, dI)) (ci := 1) (v := .ref (ad 11)) (C := RX1) (T := TX1) (N := 13) hx hb hw in_X1 hown hK hP 0 rfl rfl 11 (by decide) (hw _ m_8_35) (fun _ h9 => h9) rfl dX1_learn_200 ?_
                  refine lv_iload_n hx hb dX1_learn_203 rfl (lv_at hl 1 rfl) ?_
                  refine va_iald hx hb hK hP 11 1 rfl rfl (vp_in_nI (by omega) (by decide)) dX1_learn_204 ?_
                  refine x_topi (y := fE3 (gtg sT n j)) (by rw [nI_clamp (by omega)]) ?_
                  refine lv_iconst (v := 1) hx hb dX1_learn_205 (by decide) ?_
                  refine lv_iadd hx hb dX1_learn_206 ?_
                  refine va_iast hx hb hK hP hD hS 11 1 rfl rfl (vp_in_nI (by omega) (by decide)) dX1_learn_207 (fun H locs hP hD hS => ?_)
                  rw [nI_clamp (by omega)] at hP hD
                  have hP : va_P (dC, dI) vwCl (mw ad cz ci cj ((nI c0), fO, fG, fH, fM, fN, fT, fR, fF, fK, (upd fV3 n (fV3 (gtg sT n j))), (upd fE3 n ((fE3 (gtg sT n j)) + 1)), th)) H := hP
                  have hD : va_D Ar (mw ad cz ci cj ((nI c0), fO, fG, fH, fM, fN, fT, fR, fF, fK, (upd fV3 n (fV3 (gtg sT n j))), (upd fE3 n ((fE3 (gtg sT n j)) + 1)), th)) := hD
                  refine lv_iinc (v := (nI (j + 1))) (lv' := [(2, .int (nI (j + 1))), (4, .int 1), (3, .int (nI (gtg sT n j))), (0, .ref (ad 0)), (1, .int (nI n))]) hx hb dX1_learn_208 hl (k := 4) rfl (nI_1 j) (by decide) rfl (fun ls hl => ?_)
                  refine lv_goto (tgt := 71) hx hb dX1_learn_211 (by decide) ?_
                  exact ih (j + 1) (upd fV3 n (fV3 (gtg sT n j))) (upd fE3 n ((fE3 (gtg sT n j)) + 1)) (by omega) (by omega) (fun m q => (pk_un q).trans (hV m q)) (fun m q => (pk_un q).trans (hE m q)) (fun _ => ⟨by rw [pk_us]; exact m_e2 (hI hkk).1 (by rw [hE _ (m_ne hnd hr hlt), (hC hkk j hlt).2]; exact nI_1 _) cbbabbb_8 (m_wl hg hnd hr (by omega)) hgl, (by rw [pk_us]; exact m_v3 hf (hI hkk).2.1 (k_n0 cbbab_6) hy cbba_5), fun q => absurd q (by omega)⟩) _ _ hP hD hS _ (lv_sub hl [3, 4, 0] rfl)
        · have hf := m_gft hm hn hlt cbb_4
          refine lv_aload_n hx hb dX1_learn_111 rfl (lv_at hl 1 rfl) ?_
          refine va_get (D := (dC, dI)) (ci := 1) (v := .ref (ad 10)) (C := RX1) (T := TX1) (N := 13) hx hb hw in_X1 hown hK hP 0 rfl rfl 10 (by decide) (hw _ m_8_34) (fun _ h9 => h9) rfl dX1_learn_112 ?_
          refine lv_iload_n hx hb dX1_learn_115 rfl (lv_at hl 0 rfl) ?_
          refine va_iald hx hb hK hP 10 1 rfl rfl (vp_in_nI (by omega) (by decide)) dX1_learn_116 ?_
          refine x_topi (y := fV3 (gtg sT n j)) (by rw [nI_clamp (by omega)]) ?_
          refine lv_aload_n hx hb dX1_learn_117 rfl (lv_at hl 1 rfl) ?_
          refine va_get (D := (dC, dI)) (ci := 1) (v := .ref (ad 10)) (C := RX1) (T := TX1) (N := 13) hx hb hw in_X1 hown hK hP 0 rfl rfl 10 (by decide) (hw _ m_8_34) (fun _ h9 => h9) rfl dX1_learn_118 ?_
          refine lv_iload_n hx hb dX1_learn_121 rfl (lv_at hl 2 rfl) ?_
          refine va_iald hx hb hK hP 10 1 rfl rfl (vp_in_nI (by omega) (by decide)) dX1_learn_122 ?_
          refine x_topi (y := fV3 n) (by rw [nI_clamp (by omega)]) ?_
          refine lv_icmp_le (tgt := 130) hx hb dX1_learn_123 (by decide) (fun cbbb_5 => ?_) (fun cbbb_5 => ?_)
          · refine lv_iconst (v := 0) hx hb dX1_learn_130 (by decide) ?_
            refine lv_goto (tgt := 154) hx hb dX1_learn_131 (by decide) ?_
            refine lv_istore (lv' := [(4, .int 0), (3, .int (nI (gtg sT n j))), (0, .ref (ad 0)), (1, .int (nI n)), (2, .int (nI j))]) hx hb dX1_learn_154 hl (by decide) rfl (fun ls hl => ?_)
            refine lv_iload_n hx hb dX1_learn_156 rfl (lv_at hl 4 rfl) ?_
            refine lv_if_eq (tgt := 165) hx hb dX1_learn_157 (by decide) (fun cbbba_6 => ?_) (fun cbbba_6 => ?_)
            · refine lv_aload_n hx hb dX1_learn_165 rfl (lv_at hl 2 rfl) ?_
              refine va_get (D := (dC, dI)) (ci := 1) (v := .ref (ad 10)) (C := RX1) (T := TX1) (N := 13) hx hb hw in_X1 hown hK hP 0 rfl rfl 10 (by decide) (hw _ m_8_34) (fun _ h9 => h9) rfl dX1_learn_166 ?_
              refine lv_iload_n hx hb dX1_learn_169 rfl (lv_at hl 3 rfl) ?_
              refine lv_aload_n hx hb dX1_learn_170 rfl (lv_at hl 2 rfl) ?_
              refine va_get (D := (dC, dI)) (ci := 1) (v := .ref (ad 10)) (C := RX1) (T := TX1) (N := 13) hx hb hw in_X1 hown hK hP 0 rfl rfl 10 (by decide) (hw _ m_8_34) (fun _ h9 => h9) rfl dX1_learn_171 ?_
              refine lv_iload_n hx hb dX1_learn_174 rfl (lv_at hl 1 rfl) ?_
              refine va_iald hx hb hK hP 10 1 rfl rfl (vp_in_nI (by omega) (by decide)) dX1_learn_175 ?_
              refine x_topi (y := fV3 (gtg sT n j)) (by rw [nI_clamp (by omega)]) ?_
              refine va_iast hx hb hK hP hD hS 10 1 rfl rfl (vp_in_nI (by omega) (by decide)) dX1_learn_176 (fun H locs hP hD hS => ?_)
              rw [nI_clamp (by omega)] at hP hD
              have hP : va_P (dC, dI) vwCl (mw ad cz ci cj ((nI c0), fO, fG, fH, fM, fN, fT, fR, fF, fK, (upd fV3 n (fV3 (gtg sT n j))), fE3, th)) H := hP
              have hD : va_D Ar (mw ad cz ci cj ((nI c0), fO, fG, fH, fM, fN, fT, fR, fF, fK, (upd fV3 n (fV3 (gtg sT n j))), fE3, th)) := hD
              refine lv_aload_n hx hb dX1_learn_177 rfl (lv_at hl 2 rfl) ?_
              refine va_get (D := (dC, dI)) (ci := 1) (v := .ref (ad 11)) (C := RX1) (T := TX1) (N := 13) hx hb hw in_X1 hown hK hP 0 rfl rfl 11 (by decide) (hw _ m_8_35) (fun _ h9 => h9) rfl dX1_learn_178 ?_
              refine lv_iload_n hx hb dX1_learn_181 rfl (lv_at hl 1 rfl) ?_
              refine va_iald hx hb hK hP 11 1 rfl rfl (vp_in_nI (by omega) (by decide)) dX1_learn_182 ?_
              refine x_topi (y := fE3 (gtg sT n j)) (by rw [nI_clamp (by omega)]) ?_
              refine lv_iconst (v := 1) hx hb dX1_learn_183 (by decide) ?_
              refine lv_iadd hx hb dX1_learn_184 ?_
              refine lv_aload_n hx hb dX1_learn_185 rfl (lv_at hl 2 rfl) ?_
              refine va_get (D := (dC, dI)) (ci := 1) (v := .ref (ad 11)) (C := RX1) (T := TX1) (N := 13) hx hb hw in_X1 hown hK hP 0 rfl rfl 11 (by decide) (hw _ m_8_35) (fun _ h9 => h9) rfl dX1_learn_186 ?_
              refine lv_iload_n hx hb dX1_learn_189 rfl (lv_at hl 3 rfl) ?_
              refine va_iald hx hb hK hP 11 1 rfl rfl (vp_in_nI (by omega) (by decide)) dX1_learn_190 ?_
              refine x_topi (y := fE3 n) (by rw [nI_clamp (by omega)]) ?_
              refine lv_icmp_le (tgt := 208) hx hb dX1_learn_191 (by decide) (fun cbbbaa_7 => ?_) (fun cbbbaa_7 => ?_)
              · refine lv_iinc (v := (nI (j + 1))) (lv' := [(2, .int (nI (j + 1))), (4, .int 0), (3, .int (nI (gtg sT n j))), (0, .ref (ad 0)), (1, .int (nI n))]) hx hb dX1_learn_208 hl (k := 4) rfl (nI_1 j) (by decide) rfl (fun ls hl => ?_)
                refine lv_goto (tgt := 71) hx hb dX1_learn_211 (by decide) ?_
                exact ih (j + 1) (upd fV3 n (fV3 (gtg sT n j))) fE3 (by omega) (by omega) (fun m q => (pk_un q).trans (hV m q)) hE (fun _ => ⟨m_e1 (hI hkk).1 (by rw [hE _ (m_ne hnd hr hlt), (hC hkk j hlt).2]; exact nI_1 _) cbbbaa_7 (m_wl hg hnd hr (by omega)) hgl, (by rw [pk_us]; exact m_v0 (k_e0 (by omega) cbbba_6) hy hgb), fun q => absurd q (by omega)⟩) _ _ hP hD hS _ (lv_sub hl [3, 4, 0] rfl)
              · refine lv_aload_n hx hb dX1_learn_194 rfl (lv_at hl 2 rfl) ?_
                refine va_get (D := (dC, dI)) (ci := 1) (v := .ref (ad 11)) (C := RX1) (T := TX1) (N := 13) hx hb hw in_X1 hown hK hP 0 rfl rfl 11 (by decide) (hw _ m_8_35) (fun _ h9 => h9) rfl dX1_learn_195 ?_
                refine lv_iload_n hx hb dX1_learn_198 rfl (lv_at hl 3 rfl) ?_
                refine lv_aload_n hx hb dX1_learn_199 rfl (lv_at hl 2 rfl) ?_
                refine va_get (D := (dC, dI)) (ci := 1) (v := .ref (ad 11)) (C := RX1) (T := TX1) (N := 13) hx hb hw in_X1 hown hK hP 0 rfl rfl 11 (by decide) (hw _ m_8_35) (fun _ h9 => h9) rfl dX1_learn_200 ?_
                refine lv_iload_n hx hb dX1_learn_203 rfl (lv_at hl 1 rfl) ?_
                refine va_iald hx hb hK hP 11 1 rfl rfl (vp_in_nI (by omega) (by decide)) dX1_learn_204 ?_
                refine x_topi (y := fE3 (gtg sT n j)) (by rw [nI_clamp (by omega)]) ?_
                refine lv_iconst (v := 1) hx hb dX1_learn_205 (by decide) ?_
                refine lv_iadd hx hb dX1_learn_206 ?_
                refine va_iast hx hb hK hP hD hS 11 1 rfl rfl (vp_in_nI (by omega) (by decide)) dX1_learn_207 (fun H locs hP hD hS => ?_)
                rw [nI_clamp (by omega)] at hP hD
                have hP : va_P (dC, dI) vwCl (mw ad cz ci cj ((nI c0), fO, fG, fH, fM, fN, fT, fR, fF, fK, (upd fV3 n (fV3 (gtg sT n j))), (upd fE3 n ((fE3 (gtg sT n j)) + 1)), th)) H := hP
                have hD : va_D Ar (mw ad cz ci cj ((nI c0), fO, fG, fH, fM, fN, fT, fR, fF, fK, (upd fV3 n (fV3 (gtg sT n j))), (upd fE3 n ((fE3 (gtg sT n j)) + 1)), th)) := hD
                refine lv_iinc (v := (nI (j + 1))) (lv' := [(2, .int (nI (j + 1))), (4, .int 0), (3, .int (nI (gtg sT n j))), (0, .ref (ad 0)), (1, .int (nI n))]) hx hb dX1_learn_208 hl (k := 4) rfl (nI_1 j) (by decide) rfl (fun ls hl => ?_)
                refine lv_goto (tgt := 71) hx hb dX1_learn_211 (by decide) ?_
                exact ih (j + 1) (upd fV3 n (fV3 (gtg sT n j))) (upd fE3 n ((fE3 (gtg sT n j)) + 1)) (by omega) (by omega) (fun m q => (pk_un q).trans (hV m q)) (fun m q => (pk_un q).trans (hE m q)) (fun _ => ⟨by rw [pk_us]; exact m_e2 (hI hkk).1 (by rw [hE _ (m_ne hnd hr hlt), (hC hkk j hlt).2]; exact nI_1 _) cbbbaa_7 (m_wl hg hnd hr (by omega)) hgl, (by rw [pk_us]; exact m_v0 (k_e0 (by omega) cbbba_6) hy hgb), fun q => absurd q (by omega)⟩) _ _ hP hD hS _ (lv_sub hl [3, 4, 0] rfl)
            · refine lv_iload hx hb dX1_learn_160 (lv_at hl 0 rfl) ?_
              refine lv_if_eq (tgt := 177) hx hb dX1_learn_162 (by decide) (fun cbbbab_7 => ?_) (fun cbbbab_7 => ?_)
              · refine lv_aload_n hx hb dX1_learn_177 rfl (lv_at hl 2 rfl) ?_
                refine va_get (D := (dC, dI)) (ci := 1) (v := .ref (ad 11)) (C := RX1) (T := TX1) (N := 13) hx hb hw in_X1 hown hK hP 0 rfl rfl 11 (by decide) (hw _ m_8_35) (fun _ h9 => h9) rfl dX1_learn_178 ?_
                refine lv_iload_n hx hb dX1_learn_181 rfl (lv_at hl 1 rfl) ?_
                refine va_iald hx hb hK hP 11 1 rfl rfl (vp_in_nI (by omega) (by decide)) dX1_learn_182 ?_
                refine x_topi (y := fE3 (gtg sT n j)) (by rw [nI_clamp (by omega)]) ?_
                refine lv_iconst (v := 1) hx hb dX1_learn_183 (by decide) ?_
                refine lv_iadd hx hb dX1_learn_184 ?_
                refine lv_aload_n hx hb dX1_learn_185 rfl (lv_at hl 2 rfl) ?_
                refine va_get (D := (dC, dI)) (ci := 1) (v := .ref (ad 11)) (C := RX1) (T := TX1) (N := 13) hx hb hw in_X1 hown hK hP 0 rfl rfl 11 (by decide) (hw _ m_8_35) (fun _ h9 => h9) rfl dX1_learn_186 ?_
                refine lv_iload_n hx hb dX1_learn_189 rfl (lv_at hl 3 rfl) ?_
                refine va_iald hx hb hK hP 11 1 rfl rfl (vp_in_nI (by omega) (by decide)) dX1_learn_190 ?_
                refine x_topi (y := fE3 n) (by rw [nI_clamp (by omega)]) ?_
                refine lv_icmp_le (tgt := 208) hx hb dX1_learn_191 (by decide) (fun cbbbaba_8 => ?_) (fun cbbbaba_8 => ?_)
                · refine lv_iinc (v := (nI (j + 1))) (lv' := [(2, .int (nI (j + 1))), (4, .int 0), (3, .int (nI (gtg sT n j))), (0, .ref (ad 0)), (1, .int (nI n))]) hx hb dX1_learn_208 hl (k := 4) rfl (nI_1 j) (by decide) rfl (fun ls hl => ?_)
                  refine lv_goto (tgt := 71) hx hb dX1_learn_211 (by decide) ?_
                  exact ih (j + 1) fV3 fE3 (by omega) (by omega) hV hE (fun _ => ⟨m_e1 (hI hkk).1 (by rw [hE _ (m_ne hnd hr hlt), (hC hkk j hlt).2]; exact nI_1 _) cbbbaba_8 (m_wl hg hnd hr (by omega)) hgl, (m_v2 hf (hI hkk).2.1 (k_n0 cbbba_6) hy cbbb_5), fun q => absurd q (by omega)⟩) _ _ hP hD hS _ (lv_sub hl [3, 4, 0] rfl)
                · refine lv_aload_n hx hb dX1_learn_194 rfl (lv_at hl 2 rfl) ?_
                  refine va_get (D := (dC, dI)) (ci := 1) (v := .ref (ad 11)) (C := RX1) (T := TX1) (N := 13) hx hb hw in_X1 hown hK hP 0 rfl rfl 11 (by decide) (hw _ m_8_35) (fun _ h9 => h9) rfl dX1_learn_195 ?_
                  refine lv_iload_n hx hb dX1_learn_198 rfl (lv_at hl 3 rfl) ?_
                  refine lv_aload_n hx hb dX1_learn_199 rfl (lv_at hl 2 rfl) ?_
                  refine va_get (D := (dC, dI)) (ci := 1) (v := .ref (ad 11)) (C := RX1) (T := TX1) (N := 13) hx hb hw in_X1 hown hK hP 0 rfl rfl 11 (by decide) (hw _ m_8_35) (fun _ h9 => h9) rfl dX1_learn_200 ?_
                  refine lv_iload_n hx hb dX1_learn_203 rfl (lv_at hl 1 rfl) ?_
                  refine va_iald hx hb hK hP 11 1 rfl rfl (vp_in_nI (by omega) (by decide)) dX1_learn_204 ?_
                  refine x_topi (y := fE3 (gtg sT n j)) (by rw [nI_clamp (by omega)]) ?_
                  refine lv_iconst (v := 1) hx hb dX1_learn_205 (by decide) ?_
                  refine lv_iadd hx hb dX1_learn_206 ?_
                  refine va_iast hx hb hK hP hD hS 11 1 rfl rfl (vp_in_nI (by omega) (by decide)) dX1_learn_207 (fun H locs hP hD hS => ?_)
                  rw [nI_clamp (by omega)] at hP hD
                  have hP : va_P (dC, dI) vwCl (mw ad cz ci cj ((nI c0), fO, fG, fH, fM, fN, fT, fR, fF, fK, fV3, (upd fE3 n ((fE3 (gtg sT n j)) + 1)), th)) H := hP
                  have hD : va_D Ar (mw ad cz ci cj ((nI c0), fO, fG, fH, fM, fN, fT, fR, fF, fK, fV3, (upd fE3 n ((fE3 (gtg sT n j)) + 1)), th)) := hD
                  refine lv_iinc (v := (nI (j + 1))) (lv' := [(2, .int (nI (j + 1))), (4, .int 0), (3, .int (nI (gtg sT n j))), (0, .ref (ad 0)), (1, .int (nI n))]) hx hb dX1_learn_208 hl (k := 4) rfl (nI_1 j) (by decide) rfl (fun ls hl => ?_)
                  refine lv_goto (tgt := 71) hx hb dX1_learn_211 (by decide) ?_
                  exact ih (j + 1) fV3 (upd fE3 n ((fE3 (gtg sT n j)) + 1)) (by omega) (by omega) hV (fun m q => (pk_un q).trans (hE m q)) (fun _ => ⟨by rw [pk_us]; exact m_e2 (hI hkk).1 (by rw [hE _ (m_ne hnd hr hlt), (hC hkk j hlt).2]; exact nI_1 _) cbbbaba_8 (m_wl hg hnd hr (by omega)) hgl, (m_v2 hf (hI hkk).2.1 (k_n0 cbbba_6) hy cbbb_5), fun q => absurd q (by omega)⟩) _ _ hP hD hS _ (lv_sub hl [3, 4, 0] rfl)
              · exact absurd rfl cbbbab_7
          · refine lv_iconst (v := 1) hx hb dX1_learn_126 (by decide) ?_
            refine lv_goto (tgt := 154) hx hb dX1_learn_127 (by decide) ?_
            refine lv_istore (lv' := [(4, .int 1), (3, .int (nI (gtg sT n j))), (0, .ref (ad 0)), (1, .int (nI n)), (2, .int (nI j))]) hx hb dX1_learn_154 hl (by decide) rfl (fun ls hl => ?_)
            refine lv_iload_n hx hb dX1_learn_156 rfl (lv_at hl 4 rfl) ?_
            refine lv_if_eq (tgt := 165) hx hb dX1_learn_157 (by decide) (fun cbbbb_6 => ?_) (fun cbbbb_6 => ?_)
            · refine lv_aload_n hx hb dX1_learn_165 rfl (lv_at hl 2 rfl) ?_
              refine va_get (D := (dC, dI)) (ci := 1) (v := .ref (ad 10)) (C := RX1) (T := TX1) (N := 13) hx hb hw in_X1 hown hK hP 0 rfl rfl 10 (by decide) (hw _ m_8_34) (fun _ h9 => h9) rfl dX1_learn_166 ?_
              refine lv_iload_n hx hb dX1_learn_169 rfl (lv_at hl 3 rfl) ?_
              refine lv_aload_n hx hb dX1_learn_170 rfl (lv_at hl 2 rfl) ?_
              refine va_get (D := (dC, dI)) (ci := 1) (v := .ref (ad 10)) (C := RX1) (T := TX1) (N := 13) hx hb hw in_X1 hown hK hP 0 rfl rfl 10 (by decide) (hw _ m_8_34) (fun _ h9 => h9) rfl dX1_learn_171 ?_
              refine lv_iload_n hx hb dX1_learn_174 rfl (lv_at hl 1 rfl) ?_
              refine va_iald hx hb hK hP 10 1 rfl rfl (vp_in_nI (by omega) (by decide)) dX1_learn_175 ?_
              refine x_topi (y := fV3 (gtg sT n j)) (by rw [nI_clamp (by omega)]) ?_
              refine va_iast hx hb hK hP hD hS 10 1 rfl rfl (vp_in_nI (by omega) (by decide)) dX1_learn_176 (fun H locs hP hD hS => ?_)
              rw [nI_clamp (by omega)] at hP hD
              have hP : va_P (dC, dI) vwCl (mw ad cz ci cj ((nI c0), fO, fG, fH, fM, fN, fT, fR, fF, fK, (upd fV3 n (fV3 (gtg sT n j))), fE3, th)) H := hP
              have hD : va_D Ar (mw ad cz ci cj ((nI c0), fO, fG, fH, fM, fN, fT, fR, fF, fK, (upd fV3 n (fV3 (gtg sT n j))), fE3, th)) := hD
              refine lv_aload_n hx hb dX1_learn_177 rfl (lv_at hl 2 rfl) ?_
              refine va_get (D := (dC, dI)) (ci := 1) (v := .ref (ad 11)) (C := RX1) (T := TX1) (N := 13) hx hb hw in_X1 hown hK hP 0 rfl rfl 11 (by decide) (hw _ m_8_35) (fun _ h9 => h9) rfl dX1_learn_178 ?_
              refine lv_iload_n hx hb dX1_learn_181 rfl (lv_at hl 1 rfl) ?_
              refine va_iald hx hb hK hP 11 1 rfl rfl (vp_in_nI (by omega) (by decide)) dX1_learn_182 ?_
              refine x_topi (y := fE3 (gtg sT n j)) (by rw [nI_clamp (by omega)]) ?_
              refine lv_iconst (v := 1) hx hb dX1_learn_183 (by decide) ?_
              refine lv_iadd hx hb dX1_learn_184 ?_
              refine lv_aload_n hx hb dX1_learn_185 rfl (lv_at hl 2 rfl) ?_
              refine va_get (D := (dC, dI)) (ci := 1) (v := .ref (ad 11)) (C := RX1) (T := TX1) (N := 13) hx hb hw in_X1 hown hK hP 0 rfl rfl 11 (by decide) (hw _ m_8_35) (fun _ h9 => h9) rfl dX1_learn_186 ?_
              refine lv_iload_n hx hb dX1_learn_189 rfl (lv_at hl 3 rfl) ?_
              refine va_iald hx hb hK hP 11 1 rfl rfl (vp_in_nI (by omega) (by decide)) dX1_learn_190 ?_
              refine x_topi (y := fE3 n) (by rw [nI_clamp (by omega)]) ?_
              refine lv_icmp_le (tgt := 208) hx hb dX1_learn_191 (by decide) (fun cbbbba_7 => ?_) (fun cbbbba_7 => ?_)
              · refine lv_iinc (v := (nI (j + 1))) (lv' := [(2, .int (nI (j + 1))), (4, .int 1), (3, .int (nI (gtg sT n j))), (0, .ref (ad 0)), (1, .int (nI n))]) hx hb dX1_learn_208 hl (k := 4) rfl (nI_1 j) (by decide) rfl (fun ls hl => ?_)
                refine lv_goto (tgt := 71) hx hb dX1_learn_211 (by decide) ?_
                exact ih (j + 1) (upd fV3 n (fV3 (gtg sT n j))) fE3 (by omega) (by omega) (fun m q => (pk_un q).trans (hV m q)) hE (fun _ => ⟨m_e1 (hI hkk).1 (by rw [hE _ (m_ne hnd hr hlt), (hC hkk j hlt).2]; exact nI_1 _) cbbbba_7 (m_wl hg hnd hr (by omega)) hgl, (by rw [pk_us]; exact m_v0 (k_e0 (by omega) cbbbb_6) hy hgb), fun q => absurd q (by omega)⟩) _ _ hP hD hS _ (lv_sub hl [3, 4, 0] rfl)
              · refine lv_aload_n hx hb dX1_learn_194 rfl (lv_at hl 2 rfl) ?_
                refine va_get (D := (dC, dI)) (ci := 1) (v := .ref (ad 11)) (C := RX1) (T := TX1) (N := 13) hx hb hw in_X1 hown hK hP 0 rfl rfl 11 (by decide) (hw _ m_8_35) (fun _ h9 => h9) rfl dX1_learn_195 ?_
                refine lv_iload_n hx hb dX1_learn_198 rfl (lv_at hl 3 rfl) ?_
                refine lv_aload_n hx hb dX1_learn_199 rfl (lv_at hl 2 rfl) ?_
                refine va_get (D := (dC, dI)) (ci := 1) (v := .ref (ad 11)) (C := RX1) (T := TX1) (N := 13) hx hb hw in_X1 hown hK hP 0 rfl rfl 11 (by decide) (hw _ m_8_35) (fun _ h9 => h9) rfl dX1_learn_200 ?_
                refine lv_iload_n hx hb dX1_learn_203 rfl (lv_at hl 1 rfl) ?_
                refine va_iald hx hb hK hP 11 1 rfl rfl (vp_in_nI (by omega) (by decide)) dX1_learn_204 ?_
                refine x_topi (y := fE3 (gtg sT n j)) (by rw [nI_clamp (by omega)]) ?_
                refine lv_iconst (v := 1) hx hb dX1_learn_205 (by decide) ?_
                refine lv_iadd hx hb dX1_learn_206 ?_
                refine va_iast hx hb hK hP hD hS 11 1 rfl rfl (vp_in_nI (by omega) (by decide)) dX1_learn_207 (fun H locs hP hD hS => ?_)
                rw [nI_clamp (by omega)] at hP hD
                have hP : va_P (dC, dI) vwCl (mw ad cz ci cj ((nI c0), fO, fG, fH, fM, fN, fT, fR, fF, fK, (upd fV3 n (fV3 (gtg sT n j))), (upd fE3 n ((fE3 (gtg sT n j)) + 1)), th)) H := hP
                have hD : va_D Ar (mw ad cz ci cj ((nI c0), fO, fG, fH, fM, fN, fT, fR, fF, fK, (upd fV3 n (fV3 (gtg sT n j))), (upd fE3 n ((fE3 (gtg sT n j)) + 1)), th)) := hD
                refine lv_iinc (v := (nI (j + 1))) (lv' := [(2, .int (nI (j + 1))), (4, .int 1), (3, .int (nI (gtg sT n j))), (0, .ref (ad 0)), (1, .int (nI n))]) hx hb dX1_learn_208 hl (k := 4) rfl (nI_1 j) (by decide) rfl (fun ls hl => ?_)
                refine lv_goto (tgt := 71) hx hb dX1_learn_211 (by decide) ?_
                exact ih (j + 1) (upd fV3 n (fV3 (gtg sT n j))) (upd fE3 n ((fE3 (gtg sT n j)) + 1)) (by omega) (by omega) (fun m q => (pk_un q).trans (hV m q)) (fun m q => (pk_un q).trans (hE m q)) (fun _ => ⟨by rw [pk_us]; exact m_e2 (hI hkk).1 (by rw [hE _ (m_ne hnd hr hlt), (hC hkk j hlt).2]; exact nI_1 _) cbbbba_7 (m_wl hg hnd hr (by omega)) hgl, (by rw [pk_us]; exact m_v0 (k_e0 (by omega) cbbbb_6) hy hgb), fun q => absurd q (by omega)⟩) _ _ hP hD hS _ (lv_sub hl [3, 4, 0] rfl)
            · refine lv_iload hx hb dX1_learn_160 (lv_at hl 0 rfl) ?_
              refine lv_if_eq (tgt := 177) hx hb dX1_learn_162 (by decide) (fun cbbbbb_7 => ?_) (fun cbbbbb_7 => ?_)
              · exact absurd cbbbbb_7 (by decide)
              · refine lv_aload_n hx hb dX1_learn_165 rfl (lv_at hl 2 rfl) ?_
                refine va_get (D := (dC, dI)) (ci := 1) (v := .ref (ad 10)) (C := RX1) (T := TX1) (N := 13) hx hb hw in_X1 hown hK hP 0 rfl rfl 10 (by decide) (hw _ m_8_34) (fun _ h9 => h9) rfl dX1_learn_166 ?_
                refine lv_iload_n hx hb dX1_learn_169 rfl (lv_at hl 3 rfl) ?_
                refine lv_aload_n hx hb dX1_learn_170 rfl (lv_at hl 2 rfl) ?_
                refine va_get (D := (dC, dI)) (ci := 1) (v := .ref (ad 10)) (C := RX1) (T := TX1) (N := 13) hx hb hw in_X1 hown hK hP 0 rfl rfl 10 (by decide) (hw _ m_8_34) (fun _ h9 => h9) rfl dX1_learn_171 ?_
                refine lv_iload_n hx hb dX1_learn_174 rfl (lv_at hl 1 rfl) ?_
                refine va_iald hx hb hK hP 10 1 rfl rfl (vp_in_nI (by omega) (by decide)) dX1_learn_175 ?_
                refine x_topi (y := fV3 (gtg sT n j)) (by rw [nI_clamp (by omega)]) ?_
                refine va_iast hx hb hK hP hD hS 10 1 rfl rfl (vp_in_nI (by omega) (by decide)) dX1_learn_176 (fun H locs hP hD hS => ?_)
                rw [nI_clamp (by omega)] at hP hD
                have hP : va_P (dC, dI) vwCl (mw ad cz ci cj ((nI c0), fO, fG, fH, fM, fN, fT, fR, fF, fK, (upd fV3 n (fV3 (gtg sT n j))), fE3, th)) H := hP
                have hD : va_D Ar (mw ad cz ci cj ((nI c0), fO, fG, fH, fM, fN, fT, fR, fF, fK, (upd fV3 n (fV3 (gtg sT n j))), fE3, th)) := hD
                refine lv_aload_n hx hb dX1_learn_177 rfl (lv_at hl 2 rfl) ?_
                refine va_get (D := (dC, dI)) (ci := 1) (v := .ref (ad 11)) (C := RX1) (T := TX1) (N := 13) hx hb hw in_X1 hown hK hP 0 rfl rfl 11 (by decide) (hw _ m_8_35) (fun _ h9 => h9) rfl dX1_learn_178 ?_
                refine lv_iload_n hx hb dX1_learn_181 rfl (lv_at hl 1 rfl) ?_
                refine va_iald hx hb hK hP 11 1 rfl rfl (vp_in_nI (by omega) (by decide)) dX1_learn_182 ?_
                refine x_topi (y := fE3 (gtg sT n j)) (by rw [nI_clamp (by omega)]) ?_
                refine lv_iconst (v := 1) hx hb dX1_learn_183 (by decide) ?_
                refine lv_iadd hx hb dX1_learn_184 ?_
                refine lv_aload_n hx hb dX1_learn_185 rfl (lv_at hl 2 rfl) ?_
                refine va_get (D := (dC, dI)) (ci := 1) (v := .ref (ad 11)) (C := RX1) (T := TX1) (N := 13) hx hb hw in_X1 hown hK hP 0 rfl rfl 11 (by decide) (hw _ m_8_35) (fun _ h9 => h9) rfl dX1_learn_186 ?_
                refine lv_iload_n hx hb dX1_learn_189 rfl (lv_at hl 3 rfl) ?_
                refine va_iald hx hb hK hP 11 1 rfl rfl (vp_in_nI (by omega) (by decide)) dX1_learn_190 ?_
                refine x_topi (y := fE3 n) (by rw [nI_clamp (by omega)]) ?_
                refine lv_icmp_le (tgt := 208) hx hb dX1_learn_191 (by decide) (fun cbbbbbb_8 => ?_) (fun cbbbbbb_8 => ?_)
                · refine lv_iinc (v := (nI (j + 1))) (lv' := [(2, .int (nI (j + 1))), (4, .int 1), (3, .int (nI (gtg sT n j))), (0, .ref (ad 0)), (1, .int (nI n))]) hx hb dX1_learn_208 hl (k := 4) rfl (nI_1 j) (by decide) rfl (fun ls hl => ?_)
                  refine lv_goto (tgt := 71) hx hb dX1_learn_211 (by decide) ?_
                  exact ih (j + 1) (upd fV3 n (fV3 (gtg sT n j))) fE3 (by omega) (by omega) (fun m q => (pk_un q).trans (hV m q)) hE (fun _ => ⟨m_e1 (hI hkk).1 (by rw [hE _ (m_ne hnd hr hlt), (hC hkk j hlt).2]; exact nI_1 _) cbbbbbb_8 (m_wl hg hnd hr (by omega)) hgl, (by rw [pk_us]; exact m_v1 hf (hI hkk).2.1 (k_n0 cbbbb_6) hy cbbb_5), fun q => absurd q (by omega)⟩) _ _ hP hD hS _ (lv_sub hl [3, 4, 0] rfl)
                · refine lv_aload_n hx hb dX1_learn_194 rfl (lv_at hl 2 rfl) ?_
                  refine va_get (D := (dC, dI)) (ci := 1) (v := .ref (ad 11)) (C := RX1) (T := TX1) (N := 13) hx hb hw in_X1 hown hK hP 0 rfl rfl 11 (by decide) (hw _ m_8_35) (fun _ h9 => h9) rfl dX1_learn_195 ?_
                  refine lv_iload_n hx hb dX1_learn_198 rfl (lv_at hl 3 rfl) ?_
                  refine lv_aload_n hx hb dX1_learn_199 rfl (lv_at hl 2 rfl) ?_
                  refine va_get (D := (dC, dI)) (ci := 1) (v := .ref (ad 11)) (C := RX1) (T := TX1) (N := 13) hx hb hw in_X1 hown hK hP 0 rfl rfl 11 (by decide) (hw _ m_8_35) (fun _ h9 => h9) rfl dX1_learn_200 ?_
                  refine lv_iload_n hx hb dX1_learn_203 rfl (lv_at hl 1 rfl) ?_
                  refine va_iald hx hb hK hP 11 1 rfl rfl (vp_in_nI (by omega) (by decide)) dX1_learn_204 ?_
                  refine x_topi (y := fE3 (gtg sT n j)) (by rw [nI_clamp (by omega)]) ?_
                  refine lv_iconst (v := 1) hx hb dX1_learn_205 (by decide) ?_
                  refine lv_iadd hx hb dX1_learn_206 ?_
                  refine va_iast hx hb hK hP hD hS 11 1 rfl rfl (vp_in_nI (by omega) (by decide)) dX1_learn_207 (fun H locs hP hD hS => ?_)
                  rw [nI_clamp (by omega)] at hP hD
                  have hP : va_P (dC, dI) vwCl (mw ad cz ci cj ((nI c0), fO, fG, fH, fM, fN, fT, fR, fF, fK, (upd fV3 n (fV3 (gtg sT n j))), (upd fE3 n ((fE3 (gtg sT n j)) + 1)), th)) H := hP
                  have hD : va_D Ar (mw ad cz ci cj ((nI c0), fO, fG, fH, fM, fN, fT, fR, fF, fK, (upd fV3 n (fV3 (gtg sT n j))), (upd fE3 n ((fE3 (gtg sT n j)) + 1)), th)) := hD
                  refine lv_iinc (v := (nI (j + 1))) (lv' := [(2, .int (nI (j + 1))), (4, .int 1), (3, .int (nI (gtg sT n j))), (0, .ref (ad 0)), (1, .int (nI n))]) hx hb dX1_learn_208 hl (k := 4) rfl (nI_1 j) (by decide) rfl (fun ls hl => ?_)
                  refine lv_goto (tgt := 71) hx hb dX1_learn_211 (by decide) ?_
                  exact ih (j + 1) (upd fV3 n (fV3 (gtg sT n j))) (upd fE3 n ((fE3 (gtg sT n j)) + 1)) (by omega) (by omega) (fun m q => (pk_un q).trans (hV m q)) (fun m q => (pk_un q).trans (hE m q)) (fun _ => ⟨by rw [pk_us]; exact m_e2 (hI hkk).1 (by rw [hE _ (m_ne hnd hr hlt), (hC hkk j hlt).2]; exact nI_1 _) cbbbbbb_8 (m_wl hg hnd hr (by omega)) hgl, (by rw [pk_us]; exact m_v1 hf (hI hkk).2.1 (k_n0 cbbbb_6) hy cbbb_5), fun q => absurd q (by omega)⟩) _ _ hP hD hS _ (lv_sub hl [3, 4, 0] rfl)
set_option maxHeartbeats 4000000 in
set_option maxRecDepth 100000 in
theorem c_X1_learn (l : Launch) (dC : Nat → ClassId) (dI : Nat → Nat → Nat) (ad : Nat → Nat) (cz ci cj : ClassId) (sz : Nat) (st : Int32) (fO : Nat → Int32) (fG : Nat → Int32) (fH : Nat → Int32) (fM : Nat → Int32) (fN : Nat → Int32) (fT : Nat → Int32) (fR : Nat → Int32) (fF : Nat → Int32) (fK : Nat → Int32) (fV : Nat → Int32) (fE : Nat → Int32) (th : Int32) (n : Nat) (sO sA sB sT : Nat → Int32) (c0 : Nat) (hg : g_ok c0 sO sA sB sT) (hm : m_rel c0 sO sA sB sT fO fG fH fM fN fT) (hn : n < c0) (hnd : g_nd c0 sO sA sB sT) (hgr : gre c0 sO sA sB sT n) (hkv : m_kn c0 sO sA sB sT fK fV fE) : Met l yX1_learn wX1_learn ({ frames := 1, cells := 0, slots := 0, locals := 21 }) (va_Pc [.ref (ad 0), .int (nI n)] (g_Pre (dC, dI) vwCl (gty cz ci cj) (mw ad cz ci cj ((nI c0), fO, fG, fH, fM, fN, fT, fR, fF, fK, fV, fE, th)) sz)) (va_Qv (fun (u : MS) => ∃ fK2 fV3 fE3 : Nat → Int32, (∀ m, m ≠ n → fK2 m = fK m ∧ fV3 m = fV m ∧ fE3 m = fE m) ∧ ((¬ fK2 n = 0) ↔ ∀ i, i < gmv sO sA sB n → ¬ fK (gtg sT n i) = 0) ∧ (¬ fK2 n = 0 → (fV3 n).toInt = gval c0 sO sA sB sT n ∧ fE3 n = nI (glen c0 sO sA sB sT n)) ∧ u = ((nI c0), fO, fG, fH, fM, fN, fT, fR, fF, fK2, fV3, fE3, th)) (g_At (dC, dI) vwCl (gty cz ci cj) (va_A (mw ad cz ci cj ((nI c0), fO, fG, fH, fM, fN, fT, fR, fF, fK, fV, fE, th)) sz) (mw ad cz ci cj)) (va_A (mw ad cz ci cj ((nI c0), fO, fG, fH, fM, fN, fT, fR, fF, fK, fV, fE, th)) sz)) 0 0 (va_A (mw ad cz ci cj ((nI c0), fO, fG, fH, fM, fN, fT, fR, fF, fK, fV, fE, th)) sz) := by
  refine Met.ofW (cc := cX1_learn) (maxL := 5) (ret := none) (by decide) rfl ?_
  intro p e s m args below meth c s₁ Bd hml hv
  obtain ⟨rfl, hsz, hP, hK, hD0⟩ := hv
  have hx := Bd.exec
  have hb := Bd.bytes
  have hr := Bd.returns
  have hts := atoms_spec (ws := wX1_learn) Bd.pre
  have hw : ∀ w ∈ wAll, w.before _ s = true := fun w h => hts w (List.mem_cons_of_mem _ h)
  have hown : s.vm.findClass "GameGraphModel" = some m.cls := findClass_of_methodNamed Bd.named
  have hlocks := Bd.notSynchronized
  subst hsz
  have hD := hD0.self (sz := s.heap.size)
  generalize hAe : va_A (mw ad cz ci cj ((nI c0), fO, fG, fH, fM, fN, fT, fR, fF, fK, fV, fE, th)) s.heap.size = Ar at hD ⊢
  have hA : ∀ q : Nat, s.heap.size ≤ q → Ar q := fun q h => by rw [← hAe]; exact Or.inr h
  obtain ⟨H, hH⟩ : ∃ H : Heap, H = s.heap := ⟨_, rfl⟩
  have hS : va_S Ar s.heap H [] := by rw [hH]; exact va_S.rf
  have hP : va_P (dC, dI) vwCl (mw ad cz ci cj ((nI c0), fO, fG, fH, fM, fN, fT, fR, fF, fK, fV, fE, th)) H := by rw [hH]; exact hP
  rw [← hH]
  have hl := lv_entry ([.ref (ad 0), .int (nI n)]) (n := 5) (Nat.le_of_ble_eq_true rfl)
  rw [lg_entry_eq]
  generalize (lg_sl ([.ref (ad 0), .int (nI n)]) ++ List.replicate (5 - (lg_sl ([.ref (ad 0), .int (nI n)])).length) Slot.unset).toArray = ls at hl ⊢
  have hl : lv_has ls 5 [(0, .ref (ad 0)), (1, .int (nI n))] := hl
  have h60 := hg.2.1
  refine lv_aload_n hx hb dX1_learn_0 rfl (lv_at hl 0 rfl) ?_
  refine va_get (D := (dC, dI)) (ci := 1) (v := .ref (ad 10)) (C := RX1) (T := TX1) (N := 13) hx hb hw in_X1 hown hK hP 0 rfl rfl 10 (by decide) (hw _ m_8_34) (fun _ h9 => h9) rfl dX1_learn_1 ?_
  refine lv_iload_n hx hb dX1_learn_4 rfl (lv_at hl 1 rfl) ?_
  refine lv_aload_n hx hb dX1_learn_5 rfl (lv_at hl 0 rfl) ?_
  refine va_get (D := (dC, dI)) (ci := 1) (v := .ref (ad 2)) (C := RX1) (T := TX1) (N := 13) hx hb hw in_X1 hown hK hP 0 rfl rfl 2 (by decide) (hw _ m_8_26) (fun _ h9 => h9) rfl dX1_learn_6 ?_
  refine lv_iload_n hx hb dX1_learn_9 rfl (lv_at hl 1 rfl) ?_
  refine va_iald hx hb hK hP 2 1 rfl rfl (vp_in_nI (by omega) (by decide)) dX1_learn_10 ?_
  refine x_topi (y := fG n) (by rw [nI_clamp (by omega)]) ?_
  refine va_iast hx hb hK hP hD hS 10 1 rfl rfl (vp_in_nI (by omega) (by decide)) dX1_learn_11 (fun H locs hP hD hS => ?_)
  rw [nI_clamp (by omega)] at hP hD
  have hP : va_P (dC, dI) vwCl (mw ad cz ci cj ((nI c0), fO, fG, fH, fM, fN, fT, fR, fF, fK, (upd fV n (fG n)), fE, th)) H := hP
  have hD : va_D Ar (mw ad cz ci cj ((nI c0), fO, fG, fH, fM, fN, fT, fR, fF, fK, (upd fV n (fG n)), fE, th)) := hD
  refine lv_aload_n hx hb dX1_learn_12 rfl (lv_at hl 0 rfl) ?_
  refine va_get (D := (dC, dI)) (ci := 1) (v := .ref (ad 11)) (C := RX1) (T := TX1) (N := 13) hx hb hw in_X1 hown hK hP 0 rfl rfl 11 (by decide) (hw _ m_8_35) (fun _ h9 => h9) rfl dX1_learn_13 ?_
  refine lv_iload_n hx hb dX1_learn_16 rfl (lv_at hl 1 rfl) ?_
  refine lv_iconst (v := 0) hx hb dX1_learn_17 (by decide) ?_
  refine va_iast hx hb hK hP hD hS 11 1 rfl rfl (vp_in_nI (by omega) (by decide)) dX1_learn_18 (fun H locs hP hD hS => ?_)
  rw [nI_clamp (by omega)] at hP hD
  have hP : va_P (dC, dI) vwCl (mw ad cz ci cj ((nI c0), fO, fG, fH, fM, fN, fT, fR, fF, fK, (upd fV n (fG n)), (upd fE n 0), th)) H := hP
  have hD : va_D Ar (mw ad cz ci cj ((nI c0), fO, fG, fH, fM, fN, fT, fR, fF, fK, (upd fV n (fG n)), (upd fE n 0), th)) := hD
  refine lv_aload_n hx hb dX1_learn_19 rfl (lv_at hl 0 rfl) ?_
  refine va_get (D := (dC, dI)) (ci := 1) (v := .ref (ad 9)) (C := RX1) (T := TX1) (N := 13) hx hb hw in_X1 hown hK hP 0 rfl rfl 9 (by decide) (hw _ m_8_33) (fun _ h9 => h9) rfl dX1_learn_20 ?_
  refine lv_iload_n hx hb dX1_learn_23 rfl (lv_at hl 1 rfl) ?_
  refine lv_iconst (v := 1) hx hb dX1_learn_24 (by decide) ?_
  refine va_zast hx hb hK hP hD hS 9 0 rfl rfl (vp_in_nI (by omega) (by decide)) dX1_learn_25 (fun H locs hP hD hS => ?_)
  rw [nI_clamp (by omega)] at hP hD
  rw [show vp_nar .boolean 1 = 1 by decide] at hP hD
  have hP : va_P (dC, dI) vwCl (mw ad cz ci cj ((nI c0), fO, fG, fH, fM, fN, fT, fR, fF, (upd fK n 1), (upd fV n (fG n)), (upd fE n 0), th)) H := hP
  have hD : va_D Ar (mw ad cz ci cj ((nI c0), fO, fG, fH, fM, fN, fT, fR, fF, (upd fK n 1), (upd fV n (fG n)), (upd fE n 0), th)) := hD
  refine lv_iconst (v := 0) hx hb dX1_learn_26 (by decide) ?_
  refine x_topi (y := nI 0) (rfl) ?_
  refine lv_istore_n (lv' := [(2, .int (nI 0)), (0, .ref (ad 0)), (1, .int (nI n))]) hx hb dX1_learn_27 rfl hl (by decide) rfl (fun ls hl => ?_)
  refine lm_le1 (dC := dC) (dI := dI) (ad := ad) (cz := cz) (ci := ci) (cj := cj) (Ar := Ar) hx hb hml hown hw hK hA (Nat.le_of_ble_eq_true rfl) (Nat.le_of_ble_eq_true rfl) fO fG fH fM fN fT fR fF fK (upd fV n (fG n)) (upd fE n 0) th n sO sA sB sT c0 hg hm hn hnd hgr ?_  (gmv sO sA sB n + 1) 0 (upd fK n 1) (by omega) (by omega) (fun m q => pk_un q) (⟨fun _ i hi => absurd hi (Nat.not_lt_zero _), fun _ => m_up1⟩) _ _ hP hD hS _ (lv_sub hl [1, 2, 0] rfl)
  intro fK2 hoth hkn H locs hP hD hS ls hl
  refine lv_iconst (v := 0) hx hb dX1_learn_69 (by decide) ?_
  refine x_topi (y := nI 0) (rfl) ?_
  refine lv_istore_n (lv' := [(2, .int (nI 0)), (0, .ref (ad 0)), (1, .int (nI n))]) hx hb dX1_learn_70 rfl hl (by decide) rfl (fun ls hl => ?_)
  have hC : ¬ fK2 n = 0 → ∀ i, i < gmv sO sA sB n → ((upd fV n (fG n)) (gtg sT n i)).toInt = gval c0 sO sA sB sT (gtg sT n i) ∧ (upd fE n 0) (gtg sT n i) = nI (glen c0 sO sA sB sT (gtg sT n i)) := fun h i hi => by have q := m_ne hnd hgr hi; rw [pk_un q, pk_un q]; exact (hkv _ ((g_sok hg).2 n hn i hi) (hkn.mp h i hi)).2
  refine lm_le2 (dC := dC) (dI := dI) (ad := ad) (cz := cz) (ci := ci) (cj := cj) (Ar := Ar) hx hb hml hown hw hK hA (Nat.le_of_ble_eq_true rfl) (Nat.le_of_ble_eq_true rfl) fO fG fH fM fN fT fR fF fK2 (upd fV n (fG n)) (upd fE n 0) th n sO sA sB sT c0 hg hm hn hnd hgr hC ?_  (gmv sO sA sB n + 1) 0 (upd fV n (fG n)) (upd fE n 0) (by omega) (by omega) (fun _ _ => rfl) (fun _ _ => rfl) (fun _ => ⟨pk_us, fun q => absurd q (by omega), fun _ => pk_us⟩) _ _ hP hD hS _ (lv_sub hl [1, 2, 0] rfl)
  intro fV3 fE3 hV hE hI H locs hP hD hS ls hl
  exact W.vret hx hb hr (fun t ht hW => ⟨⟨((nI c0), fO, fG, fH, fM, fN, fT, fR, fF, fK2, fV3, fE3, th), rfl, (⟨fK2, fV3, fE3, fun m q => ⟨hoth m q, (hV m q).trans (pk_un q), (hE m q).trans (pk_un q)⟩, hkn, hI, rfl⟩), (by rw [ht]; exact hP), va_K.moved hW.alike hK, hD⟩, hS.F ht⟩) hS.2.2 dX1_learn_214
set_option maxHeartbeats 4000000 in
set_option maxRecDepth 100000 in
theorem lm_as1 {p : Program} {l : Launch} {e : Env} {R : Room} {s : State} {m : MethodId} {args : Array Value} {below : List Frame} {meth : Method} {c : Code} {Q : State → Prop} {dC : Nat → ClassId} {dI : Nat → Nat → Nat} {ad : Nat → Nat} {cz ci cj : ClassId} {Ar : Nat → Prop}  (hx : p.tables.exec = Jvm.exec) (hb : c.code = cX1_asked) (hml : c.maxLocals = 4) (hown : s.vm.findClass "GameGraphModel" = some m.cls) (hw : ∀ w ∈ wAll, w.before args s = true) (hK : va_K (dC, dI) vwCl (gty cz ci cj) s) (hA : ∀ q, s.heap.size ≤ q → Ar q) (hR1 : 0 ≤ R.frames) (hR2 : 0 ≤ R.locals) (fO fG fH fM fN fT fR fF fK fV fE : Nat → Int32) (th : Int32) (n : Int32) (sO sA sB sT : Nat → Int32) (c0 : Nat) (hg : g_ok c0 sO sA sB sT) (hm : m_rel c0 sO sA sB sT fO fG fH fM fN fT)
    (kx : ∀ (fK2 : Nat → Int32), (∀ k, k < c0 → fK2 k = 0) → ∀ (H : Heap) (locs : List Loc), va_P (dC, dI) vwCl (mw ad cz ci cj ((nI c0), fO, fG, fH, fM, fN, fT, fR, fF, fK2, fV, fE, th)) H → va_D Ar (mw ad cz ci cj ((nI c0), fO, fG, fH, fM, fN, fT, fR, fF, fK2, fV, fE, th)) → va_S Ar s.heap H locs → ∀ (ls : Array Slot), lv_has ls 4 [(0, .ref (ad 0)), (1, .int n)] → W p l e R s m args below meth c H locs 0 0 Q (F0 m 70 ls [])) :
    ∀ (fuel : Nat) (i : Nat) (fK2 : Nat → Int32), c0 + 1 ≤ i + fuel → i ≤ c0 → (∀ k, k < i → fK2 k = 0) → ∀ (H : Heap) (locs : List Loc), va_P (dC, dI) vwCl (mw ad cz ci cj ((nI c0), fO, fG, fH, fM, fN, fT, fR, fF, fK2, fV, fE, th)) H → va_D Ar (mw ad cz ci cj ((nI c0), fO, fG, fH, fM, fN, fT, fR, fF, fK2, fV, fE, th)) → va_S Ar s.heap H locs → ∀ (ls : Array Slot), lv_has ls 4 [(0, .ref (ad 0)), (1, .int n), (2, .int (nI i))] → W p l e R s m args below meth c H locs 0 0 Q (F0 m 49 ls []) := by
  intro fuel
  induction fuel with
  | zero => intro i fK2 hfu hi hI; exact absurd hfu (by omega)
  | succ fuel ih =>
    intro i fK2 hfu hi hI H locs hP hD hS ls hl
    have h60 := hg.2.1
    refine lv_iload_n hx hb dX1_asked_49 rfl (lv_at hl 2 rfl) ?_
    refine lv_aload_n hx hb dX1_asked_50 rfl (lv_at hl 0 rfl) ?_
    refine va_get (D := (dC, dI)) (ci := 1) (v := .int (nI c0)) (C := RX1) (T := TX1) (N := 13) hx hb hw in_X1 hown hK hP 0 rfl rfl 0 (by decide) (hw _ m_8_24) (fun _ h9 => h9) rfl dX1_asked_51 ?_
    refine lv_icmp_ge (tgt := 70) hx hb dX1_asked_54 (by decide) (fun c_1 => ?_) (fun c_1 => ?_)
    · exact kx fK2 (by rw [show i = c0 from (k_eq hi c_1 (by omega)).symm] at hI; exact hI) _ _ hP hD hS _ (lv_sub hl [0, 1] rfl)
    · have hlt : i < c0 := k_lt c_1 (by omega)
      refine lv_aload_n hx hb dX1_asked_57 rfl (lv_at hl 0 rfl) ?_
      refine va_get (D := (dC, dI)) (ci := 1) (v := .ref (ad 9)) (C := RX1) (T := TX1) (N := 13) hx hb hw in_X1 hown hK hP 0 rfl rfl 9 (by decide) (hw _ m_8_33) (fun _ h9 => h9) rfl dX1_asked_58 ?_
      refine lv_iload_n hx hb dX1_asked_61 rfl (lv_at hl 2 rfl) ?_
      refine lv_iconst (v := 0) hx hb dX1_asked_62 (by decide) ?_
      refine va_zast hx hb hK hP hD hS 9 0 rfl rfl (vp_in_nI (by omega) (by decide)) dX1_asked_63 (fun H locs hP hD hS => ?_)
      rw [nI_clamp (by omega)] at hP hD
      rw [show vp_nar .boolean 0 = 0 by decide] at hP hD
      have hP : va_P (dC, dI) vwCl (mw ad cz ci cj ((nI c0), fO, fG, fH, fM, fN, fT, fR, fF, (upd fK2 i 0), fV, fE, th)) H := hP
      have hD : va_D Ar (mw ad cz ci cj ((nI c0), fO, fG, fH, fM, fN, fT, fR, fF, (upd fK2 i 0), fV, fE, th)) := hD
      refine lv_iinc (v := (nI (i + 1))) (lv' := [(2, .int (nI (i + 1))), (0, .ref (ad 0)), (1, .int n)]) hx hb dX1_asked_64 hl (k := 2) rfl (nI_1 i) (by decide) rfl (fun ls hl => ?_)
      refine lv_goto (tgt := 49) hx hb dX1_asked_67 (by decide) ?_
      exact ih (i + 1) (upd fK2 i 0) (by omega) (by omega) (k_r01 (g := fun _ => 0) hI rfl) _ _ hP hD hS _ (lv_sub hl [1, 2, 0] rfl)
set_option maxHeartbeats 4000000 in
set_option maxRecDepth 100000 in
theorem lm_as2 {p : Program} {l : Launch} {e : Env} {R : Room} {s : State} {m : MethodId} {args : Array Value} {below : List Frame} {meth : Method} {c : Code} {Q : State → Prop} {dC : Nat → ClassId} {dI : Nat → Nat → Nat} {ad : Nat → Nat} {cz ci cj : ClassId} {Ar : Nat → Prop}  (hx : p.tables.exec = Jvm.exec) (hb : c.code = cX1_asked) (hml : c.maxLocals = 4) (hown : s.vm.findClass "GameGraphModel" = some m.cls) (hw : ∀ w ∈ wAll, w.before args s = true) (hK : va_K (dC, dI) vwCl (gty cz ci cj) s) (hA : ∀ q, s.heap.size ≤ q → Ar q) (hR1 : 2 ≤ R.frames) (hR2 : 45 ≤ R.locals) (fO fG fH fM fN fT fR fF fK fV fE : Nat → Int32) (th : Int32) (n : Int32) (sO sA sB sT : Nat → Int32) (c0 : Nat) (hg : g_ok c0 sO sA sB sT) (hm : m_rel c0 sO sA sB sT fO fG fH fM fN fT) (hnd : g_nd c0 sO sA sB sT) (hR : ∀ m, m < c0 → ((¬ fR m = 0) ↔ gre c0 sO sA sB sT m)) (rd : Nat)
    (kx : ∀ (fK2 : Nat → Int32) (fV2 : Nat → Int32) (fE2 : Nat → Int32), (m_kn c0 sO sA sB sT fK2 fV2 fE2) → (∀ m, m < c0 → gre c0 sO sA sB sT m → glen c0 sO sA sB sT m < rd + 1 → ¬ fK2 m = 0) → ∀ (H : Heap) (locs : List Loc), va_P (dC, dI) vwCl (mw ad cz ci cj ((nI c0), fO, fG, fH, fM, fN, fT, fR, fF, fK2, fV2, fE2, th)) H → va_D Ar (mw ad cz ci cj ((nI c0), fO, fG, fH, fM, fN, fT, fR, fF, fK2, fV2, fE2, th)) → va_S Ar s.heap H locs → ∀ (ls : Array Slot), lv_has ls 4 [(0, .ref (ad 0)), (1, .int n), (2, .int (nI rd))] → W p l e R s m args below meth c H locs 0 0 Q (F0 m 119 ls [])) :
    ∀ (fuel : Nat) (s0 : Nat) (fK2 : Nat → Int32) (fV2 : Nat → Int32) (fE2 : Nat → Int32), c0 + 1 ≤ s0 + fuel → s0 ≤ c0 → (m_kn c0 sO sA sB sT fK2 fV2 fE2) → (∀ m, m < c0 → gre c0 sO sA sB sT m → glen c0 sO sA sB sT m < (if m < s0 then rd + 1 else rd) → ¬ fK2 m = 0) → ∀ (H : Heap) (locs : List Loc), va_P (dC, dI) vwCl (mw ad cz ci cj ((nI c0), fO, fG, fH, fM, fN, fT, fR, fF, fK2, fV2, fE2, th)) H → va_D Ar (mw ad cz ci cj ((nI c0), fO, fG, fH, fM, fN, fT, fR, fF, fK2, fV2, fE2, th)) → va_S Ar s.heap H locs → ∀ (ls : Array Slot), lv_has ls 4 [(0, .ref (ad 0)), (1, .int n), (2, .int (nI rd)), (3, .int (nI s0))] → W p l e R s m args below meth c H locs 0 0 Q (F0 m 82 ls []) := by
  intro fuel
  induction fuel with
  | zero => intro s0 fK2 fV2 fE2 hfu hi hkv hI; exact absurd hfu (by omega)
  | succ fuel ih =>
    intro s0 fK2 fV2 fE2 hfu hi hkv hI H locs hP hD hS ls hl
    have h60 := hg.2.1
    refine lv_iload_n hx hb dX1_asked_82 rfl (lv_at hl 3 rfl) ?_
    refine lv_aload_n hx hb dX1_asked_83 rfl (lv_at hl 0 rfl) ?_
    refine va_get (D := (dC, dI)) (ci := 1) (v := .int (nI c0)) (C := RX1) (T := TX1) (N := 13) hx hb hw in_X1 hown hK hP 0 rfl rfl 0 (by decide) (hw _ m_8_24) (fun _ h9 => h9) rfl dX1_asked_84 ?_
    refine lv_icmp_ge (tgt := 119) hx hb dX1_asked_87 (by decide) (fun c_1 => ?_) (fun c_1 => ?_)
    · exact kx fK2 fV2 fE2 hkv (fun m h1 h2 h3 => hI m h1 h2 (by have e := k_eq hi c_1 (by omega); rw [if_pos (by omega)]; exact h3)) _ _ hP hD hS _ (lv_sub hl [0, 1, 2] rfl)
    · have hlt : s0 < c0 := k_lt c_1 (by omega)
      refine lv_aload_n hx hb dX1_asked_90 rfl (lv_at hl 0 rfl) ?_
      refine va_get (D := (dC, dI)) (ci := 1) (v := .ref (ad 7)) (C := RX1) (T := TX1) (N := 13) hx hb hw in_X1 hown hK hP 0 rfl rfl 7 (by decide) (hw _ m_8_31) (fun _ h9 => h9) rfl dX1_asked_91 ?_
      refine lv_iload_n hx hb dX1_asked_94 rfl (lv_at hl 3 rfl) ?_
      refine va_zald hx hb hK hP 7 0 rfl rfl (vp_in_nI (by omega) (by decide)) dX1_asked_95 ?_
      refine x_topi (y := fR s0) (by rw [nI_clamp (by omega)]) ?_
      refine lv_if_eq (tgt := 113) hx hb dX1_asked_96 (by decide) (fun cb_2 => ?_) (fun cb_2 => ?_)
      · refine lv_iinc (v := (nI (s0 + 1))) (lv' := [(3, .int (nI (s0 + 1))), (0, .ref (ad 0)), (1, .int n), (2, .int (nI rd))]) hx hb dX1_asked_113 hl (k := 3) rfl (nI_1 s0) (by decide) rfl (fun ls hl => ?_)
        refine lv_goto (tgt := 82) hx hb dX1_asked_116 (by decide) ?_
        exact ih (s0 + 1) fK2 fV2 fE2 (by omega) (by omega) hkv (m_sk hI (fun q => absurd cb_2 ((hR s0 hlt).mpr q))) _ _ hP hD hS _ (lv_sub hl [1, 2, 3, 0] rfl)
      · have hre := (hR s0 hlt).mp cb_2
        refine lv_aload_n hx hb dX1_asked_99 rfl (lv_at hl 0 rfl) ?_
        refine va_get (D := (dC, dI)) (ci := 1) (v := .ref (ad 9)) (C := RX1) (T := TX1) (N := 13) hx hb hw in_X1 hown hK hP 0 rfl rfl 9 (by decide) (hw _ m_8_33) (fun _ h9 => h9) rfl dX1_asked_100 ?_
        refine lv_iload_n hx hb dX1_asked_103 rfl (lv_at hl 3 rfl) ?_
        refine va_zald hx hb hK hP 9 0 rfl rfl (vp_in_nI (by omega) (by decide)) dX1_asked_104 ?_
        refine x_topi (y := fK2 s0) (by rw [nI_clamp (by omega)]) ?_
        refine lv_if_ne (tgt := 113) hx hb dX1_asked_105 (by decide) (fun cbb_3 => ?_) (fun cbb_3 => ?_)
        · refine lv_iinc (v := (nI (s0 + 1))) (lv' := [(3, .int (nI (s0 + 1))), (0, .ref (ad 0)), (1, .int n), (2, .int (nI rd))]) hx hb dX1_asked_113 hl (k := 3) rfl (nI_1 s0) (by decide) rfl (fun ls hl => ?_)
          refine lv_goto (tgt := 82) hx hb dX1_asked_116 (by decide) ?_
          exact ih (s0 + 1) fK2 fV2 fE2 (by omega) (by omega) hkv (m_sk hI (fun _ => cbb_3)) _ _ hP hD hS _ (lv_sub hl [1, 2, 3, 0] rfl)
        · refine lv_aload_n hx hb dX1_asked_108 rfl (lv_at hl 0 rfl) ?_
          refine lv_iload_n hx hb dX1_asked_109 rfl (lv_at hl 3 rfl) ?_
          refine g_callv ⟨hx, hb, hml, hown, hw⟩ (c_X1_learn l dC dI ad cz ci cj H.size (nI c0) fO fG fH fM fN fT fR fF fK2 fV2 fE2 th s0 sO sA sB sT c0 hg hm hlt hnd hre hkv) (cwV 1 hw gv_X1_X1_learn rfl rfl rfl (by decide +kernel) ⟨Nat.le_trans (Nat.le_of_ble_eq_true rfl) hR1, Nat.le_trans (Nat.le_of_ble_eq_true rfl) hR2⟩) hK hP hD hS hA (ci := 1) (q0 := 0) rfl rfl rfl hl.1 rfl (Nat.le_of_ble_eq_true rfl) dX1_asked_110 ⟨Nat.zero_le _, Nat.zero_le _⟩ (fun  un H locs hq hP hD hS => ?_)
          obtain ⟨fK3, fV3, fE3, ho, hk, hv, rfl⟩ := hq
          have hP : va_P (dC, dI) vwCl (mw ad cz ci cj ((nI c0), fO, fG, fH, fM, fN, fT, fR, fF, fK3, fV3, fE3, th)) H := hP
          have hD : va_D Ar (mw ad cz ci cj ((nI c0), fO, fG, fH, fM, fN, fT, fR, fF, fK3, fV3, fE3, th)) := hD
          refine lv_iinc (v := (nI (s0 + 1))) (lv' := [(3, .int (nI (s0 + 1))), (0, .ref (ad 0)), (1, .int n), (2, .int (nI rd))]) hx hb dX1_asked_113 hl (k := 3) rfl (nI_1 s0) (by decide) rfl (fun ls hl => ?_)
          refine lv_goto (tgt := 82) hx hb dX1_asked_116 (by decide) ?_
          exact ih (s0 + 1) fK3 fV3 fE3 (by omega) (by omega) (m_kl hkv hre ho hv) (m_sl hg hnd hre hI (fun m q => (ho m q).1) hk) _ _ hP hD hS _ (lv_sub hl [1, 2, 3, 0] rfl)
set_option maxHeartbeats 4000000 in
set_option maxRecDepth 100000 in
theorem lm_as3 {p : Program} {l : Launch} {e : Env} {R : Room} {s : State} {m : MethodId} {args : Array Value} {below : List Frame} {meth : Method} {c : Code} {Q : State → Prop} {dC : Nat → ClassId} {dI : Nat → Nat → Nat} {ad : Nat → Nat} {cz ci cj : ClassId} {Ar : Nat → Prop}  (hx : p.tables.exec = Jvm.exec) (hb : c.code = cX1_asked) (hml : c.maxLocals = 4) (hown : s.vm.findClass "GameGraphModel" = some m.cls) (hw : ∀ w ∈ wAll, w.before args s = true) (hK : va_K (dC, dI) vwCl (gty cz ci cj) s) (hA : ∀ q, s.heap.size ≤ q → Ar q) (hR1 : 2 ≤ R.frames) (hR2 : 45 ≤ R.locals) (fO fG fH fM fN fT fR fF fK fV fE : Nat → Int32) (th : Int32) (n : Int32) (sO sA sB sT : Nat → Int32) (c0 : Nat) (hg : g_ok c0 sO sA sB sT) (hm : m_rel c0 sO sA sB sT fO fG fH fM fN fT) (hnd : g_nd c0 sO sA sB sT) (hR : ∀ m, m < c0 → ((¬ fR m = 0) ↔ gre c0 sO sA sB sT m))
    (kx : ∀ (fK2 : Nat → Int32) (fV2 : Nat → Int32) (fE2 : Nat → Int32), (∀ m, gre c0 sO sA sB sT m → (fV2 m).toInt = gval c0 sO sA sB sT m ∧ fE2 m = nI (glen c0 sO sA sB sT m)) → ∀ (H : Heap) (locs : List Loc), va_P (dC, dI) vwCl (mw ad cz ci cj ((nI c0), fO, fG, fH, fM, fN, fT, fR, fF, fK2, fV2, fE2, th)) H → va_D Ar (mw ad cz ci cj ((nI c0), fO, fG, fH, fM, fN, fT, fR, fF, fK2, fV2, fE2, th)) → va_S Ar s.heap H locs → ∀ (ls : Array Slot), lv_has ls 4 [(0, .ref (ad 0)), (1, .int n)] → W p l e R s m args below meth c H locs 0 0 Q (F0 m 125 ls [])) :
    ∀ (fuel : Nat) (rd : Nat) (fK2 : Nat → Int32) (fV2 : Nat → Int32) (fE2 : Nat → Int32), c0 + 1 ≤ rd + fuel → rd ≤ c0 → (m_kn c0 sO sA sB sT fK2 fV2 fE2) → (∀ m, m < c0 → gre c0 sO sA sB sT m → glen c0 sO sA sB sT m < rd → ¬ fK2 m = 0) → ∀ (H : Heap) (locs : List Loc), va_P (dC, dI) vwCl (mw ad cz ci cj ((nI c0), fO, fG, fH, fM, fN, fT, fR, fF, fK2, fV2, fE2, th)) H → va_D Ar (mw ad cz ci cj ((nI c0), fO, fG, fH, fM, fN, fT, fR, fF, fK2, fV2, fE2, th)) → va_S Ar s.heap H locs → ∀ (ls : Array Slot), lv_has ls 4 [(0, .ref (ad 0)), (1, .int n), (2, .int (nI rd))] → W p l e R s m args below meth c H locs 0 0 Q (F0 m 72 ls []) := by
  intro fuel
  induction fuel with
  | zero => intro rd fK2 fV2 fE2 hfu hi hkv hI; exact absurd hfu (by omega)
  | succ fuel ih =>
    intro rd fK2 fV2 fE2 hfu hi hkv hI H locs hP hD hS ls hl
    have h60 := hg.2.1
    refine lv_iload_n hx hb dX1_asked_72 rfl (lv_at hl 2 rfl) ?_
    refine lv_aload_n hx hb dX1_asked_73 rfl (lv_at hl 0 rfl) ?_
    refine va_get (D := (dC, dI)) (ci := 1) (v := .int (nI c0)) (C := RX1) (T := TX1) (N := 13) hx hb hw in_X1 hown hK hP 0 rfl rfl 0 (by decide) (hw _ m_8_24) (fun _ h9 => h9) rfl dX1_asked_74 ?_
    refine lv_icmp_ge (tgt := 125) hx hb dX1_asked_77 (by decide) (fun c_1 => ?_) (fun c_1 => ?_)
    · exact kx fK2 fV2 fE2 (fun m hr => (hkv m (s_re_lt (g_sok hg) hr) (hI m (s_re_lt (g_sok hg) hr) hr (by have e := k_eq hi c_1 (by omega); have := m_gl hg hnd hr; omega))).2) _ _ hP hD hS _ (lv_sub hl [0, 1] rfl)
    · have hlt : rd < c0 := k_lt c_1 (by omega)
      refine lv_iconst (v := 0) hx hb dX1_asked_80 (by decide) ?_
      refine x_topi (y := nI 0) (rfl) ?_
      refine lv_istore_n (lv' := [(3, .int (nI 0)), (0, .ref (ad 0)), (1, .int n), (2, .int (nI rd))]) hx hb dX1_asked_81 rfl hl (by decide) rfl (fun ls hl => ?_)
      refine lm_as2 (dC := dC) (dI := dI) (ad := ad) (cz := cz) (ci := ci) (cj := cj) (Ar := Ar) hx hb hml hown hw hK hA (Nat.le_trans (Nat.le_of_ble_eq_true rfl) hR1) (Nat.le_trans (Nat.le_of_ble_eq_true rfl) hR2) fO fG fH fM fN fT fR fF fK2 fV2 fE2 th n sO sA sB sT c0 hg hm hnd hR rd ?_  (c0 + 1) 0 fK2 fV2 fE2 (by omega) (by omega) hkv (fun m h1 h2 h3 => hI m h1 h2 (by rw [if_neg (by omega)] at h3; exact h3)) _ _ hP hD hS _ (lv_sub hl [1, 2, 3, 0] rfl)
      intro fK2 fV2 fE2 hkv hI H locs hP hD hS ls hl
      refine lv_iinc (v := (nI (rd + 1))) (lv' := [(2, .int (nI (rd + 1))), (0, .ref (ad 0)), (1, .int n)]) hx hb dX1_asked_119 hl (k := 2) rfl (nI_1 rd) (by decide) rfl (fun ls hl => ?_)
      refine lv_goto (tgt := 72) hx hb dX1_asked_122 (by decide) ?_
      exact ih (rd + 1) fK2 fV2 fE2 (by omega) (by omega) hkv hI _ _ hP hD hS _ (lv_sub hl [1, 2, 0] rfl)
set_option maxHeartbeats 4000000 in
set_option maxRecDepth 100000 in
theorem c_X1_asked (l : Launch) (dC : Nat → ClassId) (dI : Nat → Nat → Nat) (ad : Nat → Nat) (cz ci cj : ClassId) (sz : Nat) (st : Int32) (fO : Nat → Int32) (fG : Nat → Int32) (fH : Nat → Int32) (fM : Nat → Int32) (fN : Nat → Int32) (fT : Nat → Int32) (fR : Nat → Int32) (fF : Nat → Int32) (fK : Nat → Int32) (fV : Nat → Int32) (fE : Nat → Int32) (th : Int32) (n : Int32) (sO sA sB sT : Nat → Int32) (c0 : Nat) (hg : g_ok c0 sO sA sB sT) (hm : m_rel c0 sO sA sB sT fO fG fH fM fN fT) : Met l yX1_asked wX1_asked ({ frames := 4, cells := 0, slots := 0, locals := 88 }) (va_Pc [.ref (ad 0), .int n] (g_Pre (dC, dI) vwCl (gty cz ci cj) (mw ad cz ci cj ((nI c0), fO, fG, fH, fM, fN, fT, fR, fF, fK, fV, fE, th)) sz)) (va_Qi (fun (r : Int32) (u : MS) => (∃ (fR2 fF2 fK2 fV2 fE2 : Nat → Int32) (k : Nat) (dk : Int32), g_df c0 (s_re c0 (gmv sO sA sB) (gtg sT)) (fun n => s_to c0 (gmv sO sA sB) (gtg sT) n n) (g_dn sO sA sB) dk (-1) ∧ k < c0 ∧ n = nI k ∧ gre c0 sO sA sB sT k ∧ (r = 1 ∧ (∀ m, gre c0 sO sA sB sT m → (fV2 m).toInt = gval c0 sO sA sB sT m ∧ fE2 m = nI (glen c0 sO sA sB sT m))) ∧ u = ((nI c0), fO, fG, fH, fM, fN, fT, fR2, fF2, fK2, fV2, fE2, 0)) ∨ (∃ (fR2 fF2 : Nat → Int32) (dk ds : Int32), g_df c0 (s_re c0 (gmv sO sA sB) (gtg sT)) (fun n => s_to c0 (gmv sO sA sB) (gtg sT) n n) (g_dn sO sA sB) dk ds ∧ ¬ ds = -1 ∧ r = 0 ∧ u = ((nI c0), fO, fG, fH, fM, fN, fT, fR2, fF2, fK, fV, fE, 1)) ∨ (∃ (fR2 fF2 : Nat → Int32) (dk : Int32), g_df c0 (s_re c0 (gmv sO sA sB) (gtg sT)) (fun n => s_to c0 (gmv sO sA sB) (gtg sT) n n) (g_dn sO sA sB) dk (-1) ∧ (∀ k, k < c0 → n = nI k → ¬ gre c0 sO sA sB sT k) ∧ r = 0 ∧ u = ((nI c0), fO, fG, fH, fM, fN, fT, fR2, fF2, fK, fV, fE, 2))) (g_At (dC, dI) vwCl (gty cz ci cj) (va_A (mw ad cz ci cj ((nI c0), fO, fG, fH, fM, fN, fT, fR, fF, fK, fV, fE, th)) sz) (mw ad cz ci cj)) (va_A (mw ad cz ci cj ((nI c0), fO, fG, fH, fM, fN, fT, fR, fF, fK, fV, fE, th)) sz)) 0 0 (va_A (mw ad cz ci cj ((nI c0), fO, fG, fH, fM, fN, fT, fR, fF, fK, fV, fE, th)) sz) := by
  refine Met.ofW (cc := cX1_asked) (maxL := 4) (ret := some .boolean) (by decide) rfl ?_
  intro p e s m args below meth c s₁ Bd hml hv
  obtain ⟨rfl, hsz, hP, hK, hD0⟩ := hv
  have hx := Bd.exec
  have hb := Bd.bytes
  have hr := Bd.returns
  have hts := atoms_spec (ws := wX1_asked) Bd.pre
  have hw : ∀ w ∈ wAll, w.before _ s = true := fun w h => hts w (List.mem_cons_of_mem _ h)
  have hown : s.vm.findClass "GameGraphModel" = some m.cls := findClass_of_methodNamed Bd.named
  have hlocks := Bd.notSynchronized
  subst hsz
  have hD := hD0.self (sz := s.heap.size)
  generalize hAe : va_A (mw ad cz ci cj ((nI c0), fO, fG, fH, fM, fN, fT, fR, fF, fK, fV, fE, th)) s.heap.size = Ar at hD ⊢
  have hA : ∀ q : Nat, s.heap.size ≤ q → Ar q := fun q h => by rw [← hAe]; exact Or.inr h
  obtain ⟨H, hH⟩ : ∃ H : Heap, H = s.heap := ⟨_, rfl⟩
  have hS : va_S Ar s.heap H [] := by rw [hH]; exact va_S.rf
  have hP : va_P (dC, dI) vwCl (mw ad cz ci cj ((nI c0), fO, fG, fH, fM, fN, fT, fR, fF, fK, fV, fE, th)) H := by rw [hH]; exact hP
  rw [← hH]
  have hl := lv_entry ([.ref (ad 0), .int n]) (n := 4) (Nat.le_of_ble_eq_true rfl)
  rw [lg_entry_eq]
  generalize (lg_sl ([.ref (ad 0), .int n]) ++ List.replicate (4 - (lg_sl ([.ref (ad 0), .int n])).length) Slot.unset).toArray = ls at hl ⊢
  have hl : lv_has ls 4 [(0, .ref (ad 0)), (1, .int n)] := hl
  have h60 := hg.2.1
  refine lv_aload_n hx hb dX1_asked_0 rfl (lv_at hl 0 rfl) ?_
  refine lv_aload_n hx hb dX1_asked_1 rfl (lv_at hl 0 rfl) ?_
  refine g_calli ⟨hx, hb, hml, hown, hw⟩ (c_X1_defective l dC dI ad cz ci cj H.size (nI c0) fO fG fH fM fN fT fR fF fK fV fE th  sO sA sB sT c0 hg hm) (cwV 0 hw gv_X1_X1_defective rfl rfl rfl (by decide +kernel) ⟨Nat.le_of_ble_eq_true rfl, Nat.le_of_ble_eq_true rfl⟩) hK hP hD hS hA (ci := 1) (q0 := 0) rfl rfl rfl hl.1 rfl (Nat.le_of_ble_eq_true rfl) dX1_asked_2 ⟨Nat.zero_le _, Nat.zero_le _⟩ (fun r_1 un H locs hq hP hD hS => ?_)
  obtain ⟨fR2, fF2, hR, ⟨dk, hdf⟩, rfl⟩ := hq
  have hP : va_P (dC, dI) vwCl (mw ad cz ci cj ((nI c0), fO, fG, fH, fM, fN, fT, fR2, fF2, fK, fV, fE, th)) H := hP
  have hD : va_D Ar (mw ad cz ci cj ((nI c0), fO, fG, fH, fM, fN, fT, fR2, fF2, fK, fV, fE, th)) := hD
  refine lv_iconst (v := -1) hx hb dX1_asked_5 (by decide) ?_
  refine lv_icmp_eq (tgt := 13) hx hb dX1_asked_6 (by decide) (fun c_2 => ?_) (fun c_2 => ?_)
  · rw [c_2] at hdf
    have hnd := g_nd_of hg (by have e := m_df_0 hg.2.1 hdf rfl; rw [e] at hdf; exact hdf)
    refine lv_aload_n hx hb dX1_asked_13 rfl (lv_at hl 0 rfl) ?_
    refine lv_iload_n hx hb dX1_asked_14 rfl (lv_at hl 1 rfl) ?_
    refine g_calli ⟨hx, hb, hml, hown, hw⟩ (c_X1_isState l dC dI ad cz ci cj H.size (nI c0) fO fG fH fM fN fT fR2 fF2 fK fV fE th n c0 rfl hg.2.1) (cwV 1 hw gv_X1_X1_isState rfl rfl rfl (by decide +kernel) ⟨Nat.le_of_ble_eq_true rfl, Nat.le_of_ble_eq_true rfl⟩) hK hP hD hS hA (ci := 1) (q0 := 0) rfl rfl rfl hl.1 rfl (Nat.le_of_ble_eq_true rfl) dX1_asked_15 ⟨Nat.zero_le _, Nat.zero_le _⟩ (fun ra_3 un H locs hq hP hD hS => ?_)
    obtain ⟨rfl, hq⟩ := hq
    have hP : va_P (dC, dI) vwCl (mw ad cz ci cj ((nI c0), fO, fG, fH, fM, fN, fT, fR2, fF2, fK, fV, fE, th)) H := hP
    have hD : va_D Ar (mw ad cz ci cj ((nI c0), fO, fG, fH, fM, fN, fT, fR2, fF2, fK, fV, fE, th)) := hD
    refine lv_if_eq (tgt := 30) hx hb dX1_asked_18 (by decide) (fun ca_4 => ?_) (fun ca_4 => ?_)
    · have hno : ∀ k, k < c0 → n ≠ nI k := by rcases hq with ⟨_, a⟩ | ⟨a, _⟩; exact absurd ca_4 (by rw [a]; decide); exact a
      refine lv_iconst (v := 2) hx hb dX1_asked_30 (by decide) ?_
      refine lv_goto (tgt := 35) hx hb dX1_asked_31 (by decide) ?_
      refine va_put (D := (dC, dI)) (ci := 1) (v := .int 2) (ty := .int) (C := RX1) (T := TX1) (N := 13) hx hb hw in_X1 tyX1 tyX1_ok nmX1 hown hK hP hD hS 0 rfl rfl 12 (by decide) (hw _ m_8_36) (fun _ h9 => h9) rfl (by decide +kernel) rfl rfl (Nat.le_of_ble_eq_true rfl) dX1_asked_35 (fun H locs hP hD hS => ?_)
      have hP : va_P (dC, dI) vwCl (mw ad cz ci cj ((nI c0), fO, fG, fH, fM, fN, fT, fR2, fF2, fK, fV, fE, 2)) H := hP
      have hD : va_D Ar (mw ad cz ci cj ((nI c0), fO, fG, fH, fM, fN, fT, fR2, fF2, fK, fV, fE, 2)) := hD
      refine lv_aload_n hx hb dX1_asked_38 rfl (lv_at hl 0 rfl) ?_
      refine va_get (D := (dC, dI)) (ci := 1) (v := .int 2) (C := RX1) (T := TX1) (N := 13) hx hb hw in_X1 hown hK hP 0 rfl rfl 12 (by decide) (hw _ m_8_36) (fun _ h9 => h9) rfl dX1_asked_39 ?_
      refine lv_if_eq (tgt := 47) hx hb dX1_asked_42 (by decide) (fun caa_5 => ?_) (fun caa_5 => ?_)
      · exact absurd caa_5 (by decide)
      · refine lv_iconst (v := 0) hx hb dX1_asked_45 (by decide) ?_
        exact W.zret (v := 0) hx hb hr (by decide) (fun t ht hW => ⟨⟨0, ((nI c0), fO, fG, fH, fM, fN, fT, fR2, fF2, fK, fV, fE, 2), rfl, (Or.inr (Or.inr ⟨fR2, fF2, dk, hdf, fun k hk e _ => hno k hk e, rfl, rfl⟩)), (by rw [ht]; exact hP), va_K.moved hW.alike hK, hD⟩, hS.F ht⟩) hS.2.2 dX1_asked_46
    · have hyes : ∃ k, k < c0 ∧ n = nI k := by rcases hq with ⟨a, _⟩ | ⟨_, a⟩; exact a; exact absurd a ca_4
      obtain ⟨k, hk, rfl⟩ := hyes
      refine lv_aload_n hx hb dX1_asked_21 rfl (lv_at hl 0 rfl) ?_
      refine va_get (D := (dC, dI)) (ci := 1) (v := .ref (ad 7)) (C := RX1) (T := TX1) (N := 13) hx hb hw in_X1 hown hK hP 0 rfl rfl 7 (by decide) (hw _ m_8_31) (fun _ h9 => h9) rfl dX1_asked_22 ?_
      refine lv_iload_n hx hb dX1_asked_25 rfl (lv_at hl 1 rfl) ?_
      refine va_zald hx hb hK hP 7 0 rfl rfl (vp_in_nI (by omega) (by decide)) dX1_asked_26 ?_
      refine x_topi (y := fR2 k) (by rw [nI_clamp (by omega)]) ?_
      refine lv_if_ne (tgt := 34) hx hb dX1_asked_27 (by decide) (fun cab_5 => ?_) (fun cab_5 => ?_)
      · have hre := (hR.1 k hk).mp cab_5
        refine lv_iconst (v := 0) hx hb dX1_asked_34 (by decide) ?_
        refine va_put (D := (dC, dI)) (ci := 1) (v := .int 0) (ty := .int) (C := RX1) (T := TX1) (N := 13) hx hb hw in_X1 tyX1 tyX1_ok nmX1 hown hK hP hD hS 0 rfl rfl 12 (by decide) (hw _ m_8_36) (fun _ h9 => h9) rfl (by decide +kernel) rfl rfl (Nat.le_of_ble_eq_true rfl) dX1_asked_35 (fun H locs hP hD hS => ?_)
        have hP : va_P (dC, dI) vwCl (mw ad cz ci cj ((nI c0), fO, fG, fH, fM, fN, fT, fR2, fF2, fK, fV, fE, 0)) H := hP
        have hD : va_D Ar (mw ad cz ci cj ((nI c0), fO, fG, fH, fM, fN, fT, fR2, fF2, fK, fV, fE, 0)) := hD
        refine lv_aload_n hx hb dX1_asked_38 rfl (lv_at hl 0 rfl) ?_
        refine va_get (D := (dC, dI)) (ci := 1) (v := .int 0) (C := RX1) (T := TX1) (N := 13) hx hb hw in_X1 hown hK hP 0 rfl rfl 12 (by decide) (hw _ m_8_36) (fun _ h9 => h9) rfl dX1_asked_39 ?_
        refine lv_if_eq (tgt := 47) hx hb dX1_asked_42 (by decide) (fun caba_6 => ?_) (fun caba_6 => ?_)
        · refine lv_iconst (v := 0) hx hb dX1_asked_47 (by decide) ?_
          refine x_topi (y := nI 0) (rfl) ?_
          refine lv_istore_n (lv' := [(2, .int (nI 0)), (0, .ref (ad 0)), (1, .int (nI k))]) hx hb dX1_asked_48 rfl hl (by decide) rfl (fun ls hl => ?_)
          refine lm_as1 (dC := dC) (dI := dI) (ad := ad) (cz := cz) (ci := ci) (cj := cj) (Ar := Ar) hx hb hml hown hw hK hA (Nat.le_of_ble_eq_true rfl) (Nat.le_of_ble_eq_true rfl) fO fG fH fM fN fT fR2 fF2 fK fV fE 0 (nI k) sO sA sB sT c0 hg hm ?_  (c0 + 1) 0 fK (by omega) (by omega) (fun k hk => absurd hk (Nat.not_lt_zero _)) _ _ hP hD hS _ (lv_sub hl [1, 2, 0] rfl)
          intro fK1 hK1 H locs hP hD hS ls hl
          refine lv_iconst (v := 0) hx hb dX1_asked_70 (by decide) ?_
          refine x_topi (y := nI 0) (rfl) ?_
          refine lv_istore_n (lv' := [(2, .int (nI 0)), (0, .ref (ad 0)), (1, .int (nI k))]) hx hb dX1_asked_71 rfl hl (by decide) rfl (fun ls hl => ?_)
          refine lm_as3 (dC := dC) (dI := dI) (ad := ad) (cz := cz) (ci := ci) (cj := cj) (Ar := Ar) hx hb hml hown hw hK hA (Nat.le_of_ble_eq_true rfl) (Nat.le_of_ble_eq_true rfl) fO fG fH fM fN fT fR2 fF2 fK1 fV fE 0 (nI k) sO sA sB sT c0 hg hm hnd hR.1 ?_  (c0 + 1) 0 fK1 fV fE (by omega) (by omega) (fun m h1 h2 => absurd (hK1 m h1) h2) (fun m _ _ h => absurd h (Nat.not_lt_zero _)) _ _ hP hD hS _ (lv_sub hl [1, 2, 0] rfl)
          intro fK2 fV2 fE2 hI H locs hP hD hS ls hl
          refine lv_iconst (v := 1) hx hb dX1_asked_125 (by decide) ?_
          exact W.zret (v := 1) hx hb hr (by decide) (fun t ht hW => ⟨⟨1, ((nI c0), fO, fG, fH, fM, fN, fT, fR2, fF2, fK2, fV2, fE2, 0), rfl, (Or.inl ⟨fR2, fF2, fK2, fV2, fE2, k, dk, hdf, hk, rfl, hre, ⟨rfl, hI⟩, rfl⟩), (by rw [ht]; exact hP), va_K.moved hW.alike hK, hD⟩, hS.F ht⟩) hS.2.2 dX1_asked_126
        · exact absurd rfl caba_6
      · refine lv_iconst (v := 2) hx hb dX1_asked_30 (by decide) ?_
        refine lv_goto (tgt := 35) hx hb dX1_asked_31 (by decide) ?_
        refine va_put (D := (dC, dI)) (ci := 1) (v := .int 2) (ty := .int) (C := RX1) (T := TX1) (N := 13) hx hb hw in_X1 tyX1 tyX1_ok nmX1 hown hK hP hD hS 0 rfl rfl 12 (by decide) (hw _ m_8_36) (fun _ h9 => h9) rfl (by decide +kernel) rfl rfl (Nat.le_of_ble_eq_true rfl) dX1_asked_35 (fun H locs hP hD hS => ?_)
        have hP : va_P (dC, dI) vwCl (mw ad cz ci cj ((nI c0), fO, fG, fH, fM, fN, fT, fR2, fF2, fK, fV, fE, 2)) H := hP
        have hD : va_D Ar (mw ad cz ci cj ((nI c0), fO, fG, fH, fM, fN, fT, fR2, fF2, fK, fV, fE, 2)) := hD
        refine lv_aload_n hx hb dX1_asked_38 rfl (lv_at hl 0 rfl) ?_
        refine va_get (D := (dC, dI)) (ci := 1) (v := .int 2) (C := RX1) (T := TX1) (N := 13) hx hb hw in_X1 hown hK hP 0 rfl rfl 12 (by decide) (hw _ m_8_36) (fun _ h9 => h9) rfl dX1_asked_39 ?_
        refine lv_if_eq (tgt := 47) hx hb dX1_asked_42 (by decide) (fun cabb_6 => ?_) (fun cabb_6 => ?_)
        · exact absurd cabb_6 (by decide)
        · refine lv_iconst (v := 0) hx hb dX1_asked_45 (by decide) ?_
          exact W.zret (v := 0) hx hb hr (by decide) (fun t ht hW => ⟨⟨0, ((nI c0), fO, fG, fH, fM, fN, fT, fR2, fF2, fK, fV, fE, 2), rfl, (Or.inr (Or.inr ⟨fR2, fF2, dk, hdf, fun k2 hk2 e h => (by have e2 := k_inj (by omega) (by omega) e; subst e2; exact absurd cab_5 ((hR.1 _ hk).mpr h)), rfl, rfl⟩)), (by rw [ht]; exact hP), va_K.moved hW.alike hK, hD⟩, hS.F ht⟩) hS.2.2 dX1_asked_46
  · refine lv_iconst (v := 1) hx hb dX1_asked_9 (by decide) ?_
    refine lv_goto (tgt := 35) hx hb dX1_asked_10 (by decide) ?_
    refine va_put (D := (dC, dI)) (ci := 1) (v := .int 1) (ty := .int) (C := RX1) (T := TX1) (N := 13) hx hb hw in_X1 tyX1 tyX1_ok nmX1 hown hK hP hD hS 0 rfl rfl 12 (by decide) (hw _ m_8_36) (fun _ h9 => h9) rfl (by decide +kernel) rfl rfl (Nat.le_of_ble_eq_true rfl) dX1_asked_35 (fun H locs hP hD hS => ?_)
    have hP : va_P (dC, dI) vwCl (mw ad cz ci cj ((nI c0), fO, fG, fH, fM, fN, fT, fR2, fF2, fK, fV, fE, 1)) H := hP
    have hD : va_D Ar (mw ad cz ci cj ((nI c0), fO, fG, fH, fM, fN, fT, fR2, fF2, fK, fV, fE, 1)) := hD
    refine lv_aload_n hx hb dX1_asked_38 rfl (lv_at hl 0 rfl) ?_
    refine va_get (D := (dC, dI)) (ci := 1) (v := .int 1) (C := RX1) (T := TX1) (N := 13) hx hb hw in_X1 hown hK hP 0 rfl rfl 12 (by decide) (hw _ m_8_36) (fun _ h9 => h9) rfl dX1_asked_39 ?_
    refine lv_if_eq (tgt := 47) hx hb dX1_asked_42 (by decide) (fun cb_3 => ?_) (fun cb_3 => ?_)
    · exact absurd cb_3 (by decide)
    · refine lv_iconst (v := 0) hx hb dX1_asked_45 (by decide) ?_
      exact W.zret (v := 0) hx hb hr (by decide) (fun t ht hW => ⟨⟨0, ((nI c0), fO, fG, fH, fM, fN, fT, fR2, fF2, fK, fV, fE, 1), rfl, (Or.inr (Or.inl ⟨fR2, fF2, dk, r_1, hdf, c_2, rfl, rfl⟩)), (by rw [ht]; exact hP), va_K.moved hW.alike hK, hD⟩, hS.F ht⟩) hS.2.2 dX1_asked_46
set_option maxHeartbeats 4000000 in
set_option maxRecDepth 100000 in
theorem c_X1_value (l : Launch) (dC : Nat → ClassId) (dI : Nat → Nat → Nat) (ad : Nat → Nat) (cz ci cj : ClassId) (sz : Nat) (st : Int32) (fO : Nat → Int32) (fG : Nat → Int32) (fH : Nat → Int32) (fM : Nat → Int32) (fN : Nat → Int32) (fT : Nat → Int32) (fR : Nat → Int32) (fF : Nat → Int32) (fK : Nat → Int32) (fV : Nat → Int32) (fE : Nat → Int32) (th : Int32) (n : Int32) (sO sA sB sT : Nat → Int32) (c0 : Nat) (hg : g_ok c0 sO sA sB sT) (hm : m_rel c0 sO sA sB sT fO fG fH fM fN fT) : Met l yX1_value wX1_value ({ frames := 5, cells := 0, slots := 0, locals := 111 }) (va_Pc [.ref (ad 0), .int n] (g_Pre (dC, dI) vwCl (gty cz ci cj) (mw ad cz ci cj ((nI c0), fO, fG, fH, fM, fN, fT, fR, fF, fK, fV, fE, th)) sz)) (va_Qi (fun (r : Int32) (u : MS) => (∃ (fR2 fF2 fK2 fV2 fE2 : Nat → Int32) (k : Nat) (dk : Int32), g_df c0 (s_re c0 (gmv sO sA sB) (gtg sT)) (fun n => s_to c0 (gmv sO sA sB) (gtg sT) n n) (g_dn sO sA sB) dk (-1) ∧ k < c0 ∧ n = nI k ∧ gre c0 sO sA sB sT k ∧ r.toInt = gval c0 sO sA sB sT k ∧ u = ((nI c0), fO, fG, fH, fM, fN, fT, fR2, fF2, fK2, fV2, fE2, 0)) ∨ (∃ (fR2 fF2 : Nat → Int32) (dk ds : Int32), g_df c0 (s_re c0 (gmv sO sA sB) (gtg sT)) (fun n => s_to c0 (gmv sO sA sB) (gtg sT) n n) (g_dn sO sA sB) dk ds ∧ ¬ ds = -1 ∧ u = ((nI c0), fO, fG, fH, fM, fN, fT, fR2, fF2, fK, fV, fE, 1)) ∨ (∃ (fR2 fF2 : Nat → Int32) (dk : Int32), g_df c0 (s_re c0 (gmv sO sA sB) (gtg sT)) (fun n => s_to c0 (gmv sO sA sB) (gtg sT) n n) (g_dn sO sA sB) dk (-1) ∧ (∀ k, k < c0 → n = nI k → ¬ gre c0 sO sA sB sT k) ∧ u = ((nI c0), fO, fG, fH, fM, fN, fT, fR2, fF2, fK, fV, fE, 2))) (g_At (dC, dI) vwCl (gty cz ci cj) (va_A (mw ad cz ci cj ((nI c0), fO, fG, fH, fM, fN, fT, fR, fF, fK, fV, fE, th)) sz) (mw ad cz ci cj)) (va_A (mw ad cz ci cj ((nI c0), fO, fG, fH, fM, fN, fT, fR, fF, fK, fV, fE, th)) sz)) 0 0 (va_A (mw ad cz ci cj ((nI c0), fO, fG, fH, fM, fN, fT, fR, fF, fK, fV, fE, th)) sz) := by
  refine Met.ofW (cc := cX1_value) (maxL := 2) (ret := some .int) (by decide) rfl ?_
  intro p e s m args below meth c s₁ Bd hml hv
  obtain ⟨rfl, hsz, hP, hK, hD0⟩ := hv
  have hx := Bd.exec
  have hb := Bd.bytes
  have hr := Bd.returns
  have hts := atoms_spec (ws := wX1_value) Bd.pre
  have hw : ∀ w ∈ wAll, w.before _ s = true := fun w h => hts w (List.mem_cons_of_mem _ h)
  have hown : s.vm.findClass "GameGraphModel" = some m.cls := findClass_of_methodNamed Bd.named
  have hlocks := Bd.notSynchronized
  subst hsz
  have hD := hD0.self (sz := s.heap.size)
  generalize hAe : va_A (mw ad cz ci cj ((nI c0), fO, fG, fH, fM, fN, fT, fR, fF, fK, fV, fE, th)) s.heap.size = Ar at hD ⊢
  have hA : ∀ q : Nat, s.heap.size ≤ q → Ar q := fun q h => by rw [← hAe]; exact Or.inr h
  obtain ⟨H, hH⟩ : ∃ H : Heap, H = s.heap := ⟨_, rfl⟩
  have hS : va_S Ar s.heap H [] := by rw [hH]; exact va_S.rf
  have hP : va_P (dC, dI) vwCl (mw ad cz ci cj ((nI c0), fO, fG, fH, fM, fN, fT, fR, fF, fK, fV, fE, th)) H := by rw [hH]; exact hP
  rw [← hH]
  have hl := lv_entry ([.ref (ad 0), .int n]) (n := 2) (Nat.le_of_ble_eq_true rfl)
  rw [lg_entry_eq]
  generalize (lg_sl ([.ref (ad 0), .int n]) ++ List.replicate (2 - (lg_sl ([.ref (ad 0), .int n])).length) Slot.unset).toArray = ls at hl ⊢
  have hl : lv_has ls 2 [(0, .ref (ad 0)), (1, .int n)] := hl
  have h60 := hg.2.1
  refine lv_aload_n hx hb dX1_value_0 rfl (lv_at hl 0 rfl) ?_
  refine lv_iload_n hx hb dX1_value_1 rfl (lv_at hl 1 rfl) ?_
  refine g_calli ⟨hx, hb, hml, hown, hw⟩ (c_X1_asked l dC dI ad cz ci cj H.size (nI c0) fO fG fH fM fN fT fR fF fK fV fE th n sO sA sB sT c0 hg hm) (cwV 1 hw gv_X1_X1_asked rfl rfl rfl (by decide +kernel) ⟨Nat.le_of_ble_eq_true rfl, Nat.le_of_ble_eq_true rfl⟩) hK hP hD hS hA (ci := 1) (q0 := 0) rfl rfl rfl hl.1 rfl (Nat.le_of_ble_eq_true rfl) dX1_value_2 ⟨Nat.zero_le _, Nat.zero_le _⟩ (fun r_1 un H locs hq hP hD hS => ?_)
  rcases hq with ⟨fR2, fF2, fK2, fV2, fE2, k, dk, hdf, hk, rfl, hre, ⟨rfl, hall⟩, rfl⟩ | ⟨fR2, fF2, dk, ds, hdf, hds, rfl, rfl⟩ | ⟨fR2, fF2, dk, hdf, hno, rfl, rfl⟩
  · have hP : va_P (dC, dI) vwCl (mw ad cz ci cj ((nI c0), fO, fG, fH, fM, fN, fT, fR2, fF2, fK2, fV2, fE2, 0)) H := hP
    have hD : va_D Ar (mw ad cz ci cj ((nI c0), fO, fG, fH, fM, fN, fT, fR2, fF2, fK2, fV2, fE2, 0)) := hD
    refine lv_if_eq (tgt := 17) hx hb dX1_value_5 (by decide) (fun ca_2 => ?_) (fun ca_2 => ?_)
    · exact absurd ca_2 (by decide)
    · refine lv_aload_n hx hb dX1_value_8 rfl (lv_at hl 0 rfl) ?_
      refine va_get (D := (dC, dI)) (ci := 1) (v := .ref (ad 10)) (C := RX1) (T := TX1) (N := 13) hx hb hw in_X1 hown hK hP 0 rfl rfl 10 (by decide) (hw _ m_8_34) (fun _ h9 => h9) rfl dX1_value_9 ?_
      refine lv_iload_n hx hb dX1_value_12 rfl (lv_at hl 1 rfl) ?_
      refine va_iald hx hb hK hP 10 1 rfl rfl (vp_in_nI (by omega) (by decide)) dX1_value_13 ?_
      refine x_topi (y := fV2 k) (by rw [nI_clamp (by omega)]) ?_
      refine lv_goto (tgt := 18) hx hb dX1_value_14 (by decide) ?_
      exact W.iret (v := (fV2 k)) hx hb hr (fun t ht hW => ⟨⟨(fV2 k), ((nI c0), fO, fG, fH, fM, fN, fT, fR2, fF2, fK2, fV2, fE2, 0), rfl, (Or.inl ⟨fR2, fF2, fK2, fV2, fE2, k, dk, hdf, hk, rfl, hre, (hall k hre).1, rfl⟩), (by rw [ht]; exact hP), va_K.moved hW.alike hK, hD⟩, hS.F ht⟩) hS.2.2 dX1_value_18
  · have hP : va_P (dC, dI) vwCl (mw ad cz ci cj ((nI c0), fO, fG, fH, fM, fN, fT, fR2, fF2, fK, fV, fE, 1)) H := hP
    have hD : va_D Ar (mw ad cz ci cj ((nI c0), fO, fG, fH, fM, fN, fT, fR2, fF2, fK, fV, fE, 1)) := hD
    refine lv_if_eq (tgt := 17) hx hb dX1_value_5 (by decide) (fun cb_2 => ?_) (fun cb_2 => ?_)
    · refine lv_iconst (v := 0) hx hb dX1_value_17 (by decide) ?_
      exact W.iret (v := 0) hx hb hr (fun t ht hW => ⟨⟨0, ((nI c0), fO, fG, fH, fM, fN, fT, fR2, fF2, fK, fV, fE, 1), rfl, (Or.inr (Or.inl ⟨fR2, fF2, dk, ds, hdf, hds, rfl⟩)), (by rw [ht]; exact hP), va_K.moved hW.alike hK, hD⟩, hS.F ht⟩) hS.2.2 dX1_value_18
    · exact absurd rfl cb_2
  · have hP : va_P (dC, dI) vwCl (mw ad cz ci cj ((nI c0), fO, fG, fH, fM, fN, fT, fR2, fF2, fK, fV, fE, 2)) H := hP
    have hD : va_D Ar (mw ad cz ci cj ((nI c0), fO, fG, fH, fM, fN, fT, fR2, fF2, fK, fV, fE, 2)) := hD
    refine lv_if_eq (tgt := 17) hx hb dX1_value_5 (by decide) (fun cc_2 => ?_) (fun cc_2 => ?_)
    · refine lv_iconst (v := 0) hx hb dX1_value_17 (by decide) ?_
      exact W.iret (v := 0) hx hb hr (fun t ht hW => ⟨⟨0, ((nI c0), fO, fG, fH, fM, fN, fT, fR2, fF2, fK, fV, fE, 2), rfl, (Or.inr (Or.inr ⟨fR2, fF2, dk, hdf, hno, rfl⟩)), (by rw [ht]; exact hP), va_K.moved hW.alike hK, hD⟩, hS.F ht⟩) hS.2.2 dX1_value_18
    · exact absurd rfl cc_2
set_option maxHeartbeats 4000000 in
set_option maxRecDepth 100000 in
theorem c_X1_length (l : Launch) (dC : Nat → ClassId) (dI : Nat → Nat → Nat) (ad : Nat → Nat) (cz ci cj : ClassId) (sz : Nat) (st : Int32) (fO : Nat → Int32) (fG : Nat → Int32) (fH : Nat → Int32) (fM : Nat → Int32) (fN : Nat → Int32) (fT : Nat → Int32) (fR : Nat → Int32) (fF : Nat → Int32) (fK : Nat → Int32) (fV : Nat → Int32) (fE : Nat → Int32) (th : Int32) (n : Int32) (sO sA sB sT : Nat → Int32) (c0 : Nat) (hg : g_ok c0 sO sA sB sT) (hm : m_rel c0 sO sA sB sT fO fG fH fM fN fT) : Met l yX1_length wX1_length ({ frames := 5, cells := 0, slots := 0, locals := 111 }) (va_Pc [.ref (ad 0), .int n] (g_Pre (dC, dI) vwCl (gty cz ci cj) (mw ad cz ci cj ((nI c0), fO, fG, fH, fM, fN, fT, fR, fF, fK, fV, fE, th)) sz)) (va_Qi (fun (r : Int32) (u : MS) => (∃ (fR2 fF2 fK2 fV2 fE2 : Nat → Int32) (k : Nat) (dk : Int32), g_df c0 (s_re c0 (gmv sO sA sB) (gtg sT)) (fun n => s_to c0 (gmv sO sA sB) (gtg sT) n n) (g_dn sO sA sB) dk (-1) ∧ k < c0 ∧ n = nI k ∧ gre c0 sO sA sB sT k ∧ r = nI (glen c0 sO sA sB sT k) ∧ u = ((nI c0), fO, fG, fH, fM, fN, fT, fR2, fF2, fK2, fV2, fE2, 0)) ∨ (∃ (fR2 fF2 : Nat → Int32) (dk ds : Int32), g_df c0 (s_re c0 (gmv sO sA sB) (gtg sT)) (fun n => s_to c0 (gmv sO sA sB) (gtg sT) n n) (g_dn sO sA sB) dk ds ∧ ¬ ds = -1 ∧ u = ((nI c0), fO, fG, fH, fM, fN, fT, fR2, fF2, fK, fV, fE, 1)) ∨ (∃ (fR2 fF2 : Nat → Int32) (dk : Int32), g_df c0 (s_re c0 (gmv sO sA sB) (gtg sT)) (fun n => s_to c0 (gmv sO sA sB) (gtg sT) n n) (g_dn sO sA sB) dk (-1) ∧ (∀ k, k < c0 → n = nI k → ¬ gre c0 sO sA sB sT k) ∧ u = ((nI c0), fO, fG, fH, fM, fN, fT, fR2, fF2, fK, fV, fE, 2))) (g_At (dC, dI) vwCl (gty cz ci cj) (va_A (mw ad cz ci cj ((nI c0), fO, fG, fH, fM, fN, fT, fR, fF, fK, fV, fE, th)) sz) (mw ad cz ci cj)) (va_A (mw ad cz ci cj ((nI c0), fO, fG, fH, fM, fN, fT, fR, fF, fK, fV, fE, th)) sz)) 0 0 (va_A (mw ad cz ci cj ((nI c0), fO, fG, fH, fM, fN, fT, fR, fF, fK, fV, fE, th)) sz) := by
  refine Met.ofW (cc := cX1_length) (maxL := 2) (ret := some .int) (by decide) rfl ?_
  intro p e s m args below meth c s₁ Bd hml hv
  obtain ⟨rfl, hsz, hP, hK, hD0⟩ := hv
  have hx := Bd.exec
  have hb := Bd.bytes
  have hr := Bd.returns
  have hts := atoms_spec (ws := wX1_length) Bd.pre
  have hw : ∀ w ∈ wAll, w.before _ s = true := fun w h => hts w (List.mem_cons_of_mem _ h)
  have hown : s.vm.findClass "GameGraphModel" = some m.cls := findClass_of_methodNamed Bd.named
  have hlocks := Bd.notSynchronized
  subst hsz
  have hD := hD0.self (sz := s.heap.size)
  generalize hAe : va_A (mw ad cz ci cj ((nI c0), fO, fG, fH, fM, fN, fT, fR, fF, fK, fV, fE, th)) s.heap.size = Ar at hD ⊢
  have hA : ∀ q : Nat, s.heap.size ≤ q → Ar q := fun q h => by rw [← hAe]; exact Or.inr h
  obtain ⟨H, hH⟩ : ∃ H : Heap, H = s.heap := ⟨_, rfl⟩
  have hS : va_S Ar s.heap H [] := by rw [hH]; exact va_S.rf
  have hP : va_P (dC, dI) vwCl (mw ad cz ci cj ((nI c0), fO, fG, fH, fM, fN, fT, fR, fF, fK, fV, fE, th)) H := by rw [hH]; exact hP
  rw [← hH]
  have hl := lv_entry ([.ref (ad 0), .int n]) (n := 2) (Nat.le_of_ble_eq_true rfl)
  rw [lg_entry_eq]
  generalize (lg_sl ([.ref (ad 0), .int n]) ++ List.replicate (2 - (lg_sl ([.ref (ad 0), .int n])).length) Slot.unset).toArray = ls at hl ⊢
  have hl : lv_has ls 2 [(0, .ref (ad 0)), (1, .int n)] := hl
  have h60 := hg.2.1
  refine lv_aload_n hx hb dX1_length_0 rfl (lv_at hl 0 rfl) ?_
  refine lv_iload_n hx hb dX1_length_1 rfl (lv_at hl 1 rfl) ?_
  refine g_calli ⟨hx, hb, hml, hown, hw⟩ (c_X1_asked l dC dI ad cz ci cj H.size (nI c0) fO fG fH fM fN fT fR fF fK fV fE th n sO sA sB sT c0 hg hm) (cwV 1 hw gv_X1_X1_asked rfl rfl rfl (by decide +kernel) ⟨Nat.le_of_ble_eq_true rfl, Nat.le_of_ble_eq_true rfl⟩) hK hP hD hS hA (ci := 1) (q0 := 0) rfl rfl rfl hl.1 rfl (Nat.le_of_ble_eq_true rfl) dX1_length_2 ⟨Nat.zero_le _, Nat.zero_le _⟩ (fun r_1 un H locs hq hP hD hS => ?_)
  rcases hq with ⟨fR2, fF2, fK2, fV2, fE2, k, dk, hdf, hk, rfl, hre, ⟨rfl, hall⟩, rfl⟩ | ⟨fR2, fF2, dk, ds, hdf, hds, rfl, rfl⟩ | ⟨fR2, fF2, dk, hdf, hno, rfl, rfl⟩
  · have hP : va_P (dC, dI) vwCl (mw ad cz ci cj ((nI c0), fO, fG, fH, fM, fN, fT, fR2, fF2, fK2, fV2, fE2, 0)) H := hP
    have hD : va_D Ar (mw ad cz ci cj ((nI c0), fO, fG, fH, fM, fN, fT, fR2, fF2, fK2, fV2, fE2, 0)) := hD
    refine lv_if_eq (tgt := 17) hx hb dX1_length_5 (by decide) (fun ca_2 => ?_) (fun ca_2 => ?_)
    · exact absurd ca_2 (by decide)
    · refine lv_aload_n hx hb dX1_length_8 rfl (lv_at hl 0 rfl) ?_
      refine va_get (D := (dC, dI)) (ci := 1) (v := .ref (ad 11)) (C := RX1) (T := TX1) (N := 13) hx hb hw in_X1 hown hK hP 0 rfl rfl 11 (by decide) (hw _ m_8_35) (fun _ h9 => h9) rfl dX1_length_9 ?_
      refine lv_iload_n hx hb dX1_length_12 rfl (lv_at hl 1 rfl) ?_
      refine va_iald hx hb hK hP 11 1 rfl rfl (vp_in_nI (by omega) (by decide)) dX1_length_13 ?_
      refine x_topi (y := fE2 k) (by rw [nI_clamp (by omega)]) ?_
      refine lv_goto (tgt := 18) hx hb dX1_length_14 (by decide) ?_
      exact W.iret (v := (fE2 k)) hx hb hr (fun t ht hW => ⟨⟨(fE2 k), ((nI c0), fO, fG, fH, fM, fN, fT, fR2, fF2, fK2, fV2, fE2, 0), rfl, (Or.inl ⟨fR2, fF2, fK2, fV2, fE2, k, dk, hdf, hk, rfl, hre, (hall k hre).2, rfl⟩), (by rw [ht]; exact hP), va_K.moved hW.alike hK, hD⟩, hS.F ht⟩) hS.2.2 dX1_length_18
  · have hP : va_P (dC, dI) vwCl (mw ad cz ci cj ((nI c0), fO, fG, fH, fM, fN, fT, fR2, fF2, fK, fV, fE, 1)) H := hP
    have hD : va_D Ar (mw ad cz ci cj ((nI c0), fO, fG, fH, fM, fN, fT, fR2, fF2, fK, fV, fE, 1)) := hD
    refine lv_if_eq (tgt := 17) hx hb dX1_length_5 (by decide) (fun cb_2 => ?_) (fun cb_2 => ?_)
    · refine lv_iconst (v := 0) hx hb dX1_length_17 (by decide) ?_
      exact W.iret (v := 0) hx hb hr (fun t ht hW => ⟨⟨0, ((nI c0), fO, fG, fH, fM, fN, fT, fR2, fF2, fK, fV, fE, 1), rfl, (Or.inr (Or.inl ⟨fR2, fF2, dk, ds, hdf, hds, rfl⟩)), (by rw [ht]; exact hP), va_K.moved hW.alike hK, hD⟩, hS.F ht⟩) hS.2.2 dX1_length_18
    · exact absurd rfl cb_2
  · have hP : va_P (dC, dI) vwCl (mw ad cz ci cj ((nI c0), fO, fG, fH, fM, fN, fT, fR2, fF2, fK, fV, fE, 2)) H := hP
    have hD : va_D Ar (mw ad cz ci cj ((nI c0), fO, fG, fH, fM, fN, fT, fR2, fF2, fK, fV, fE, 2)) := hD
    refine lv_if_eq (tgt := 17) hx hb dX1_length_5 (by decide) (fun cc_2 => ?_) (fun cc_2 => ?_)
    · refine lv_iconst (v := 0) hx hb dX1_length_17 (by decide) ?_
      exact W.iret (v := 0) hx hb hr (fun t ht hW => ⟨⟨0, ((nI c0), fO, fG, fH, fM, fN, fT, fR2, fF2, fK, fV, fE, 2), rfl, (Or.inr (Or.inr ⟨fR2, fF2, dk, hdf, hno, rfl⟩)), (by rw [ht]; exact hP), va_K.moved hW.alike hK, hD⟩, hS.F ht⟩) hS.2.2 dX1_length_18
    · exact absurd rfl cc_2
set_option maxHeartbeats 4000000 in
set_option maxRecDepth 100000 in
theorem lm_best {p : Program} {l : Launch} {e : Env} {R : Room} {s : State} {m : MethodId} {args : Array Value} {below : List Frame} {meth : Method} {c : Code} {Q : State → Prop} {dC : Nat → ClassId} {dI : Nat → Nat → Nat} {ad : Nat → Nat} {cz ci cj : ClassId} {Ar : Nat → Prop}  (hx : p.tables.exec = Jvm.exec) (hb : c.code = cX1_best) (hml : c.maxLocals = 3) (hown : s.vm.findClass "GameGraphModel" = some m.cls) (hw : ∀ w ∈ wAll, w.before args s = true) (hK : va_K (dC, dI) vwCl (gty cz ci cj) s) (hA : ∀ q, s.heap.size ≤ q → Ar q) (hR1 : 1 ≤ R.frames) (hR2 : 21 ≤ R.locals) (fO fG fH fM fN fT fR fF fK fV fE : Nat → Int32) (th : Int32) (n : Nat) (sO sA sB sT : Nat → Int32) (c0 : Nat) (hg : g_ok c0 sO sA sB sT) (hm : m_rel c0 sO sA sB sT fO fG fH fM fN fT) (hn : n < c0) (hr : gre c0 sO sA sB sT n) (hall : (∀ m, gre c0 sO sA sB sT m → (fV m).toInt = gval c0 sO sA sB sT m ∧ fE m = nI (glen c0 sO sA sB sT m)))
    (kx : (∀ i, i < gmv sO sA sB n → gval c0 sO sA sB sT (gtg sT n i) ≠ gval c0 sO sA sB sT n) → ∀ (H : Heap) (locs : List Loc), va_P (dC, dI) vwCl (mw ad cz ci cj ((nI c0), fO, fG, fH, fM, fN, fT, fR, fF, fK, fV, fE, th)) H → va_D Ar (mw ad cz ci cj ((nI c0), fO, fG, fH, fM, fN, fT, fR, fF, fK, fV, fE, th)) → va_S Ar s.heap H locs → ∀ (ls : Array Slot), lv_has ls 3 [(0, .ref (ad 0))] → W p l e R s m args below meth c H locs 0 0 Q (F0 m 54 ls []))
    (ky : ∀ (j : Nat), j < gmv sO sA sB n → gval c0 sO sA sB sT (gtg sT n j) = gval c0 sO sA sB sT n → (∀ i, i < j → gval c0 sO sA sB sT (gtg sT n i) ≠ gval c0 sO sA sB sT n) → ∀ (H : Heap) (locs : List Loc), va_P (dC, dI) vwCl (mw ad cz ci cj ((nI c0), fO, fG, fH, fM, fN, fT, fR, fF, fK, fV, fE, th)) H → va_D Ar (mw ad cz ci cj ((nI c0), fO, fG, fH, fM, fN, fT, fR, fF, fK, fV, fE, th)) → va_S Ar s.heap H locs → ∀ (ls : Array Slot), lv_has ls 3 [(2, .int (nI j))] → W p l e R s m args below meth c H locs 0 0 Q (F0 m 46 ls [])) :
    ∀ (fuel : Nat) (j : Nat), gmv sO sA sB n + 1 ≤ j + fuel → j ≤ gmv sO sA sB n → (∀ i, i < j → gval c0 sO sA sB sT (gtg sT n i) ≠ gval c0 sO sA sB sT n) → ∀ (H : Heap) (locs : List Loc), va_P (dC, dI) vwCl (mw ad cz ci cj ((nI c0), fO, fG, fH, fM, fN, fT, fR, fF, fK, fV, fE, th)) H → va_D Ar (mw ad cz ci cj ((nI c0), fO, fG, fH, fM, fN, fT, fR, fF, fK, fV, fE, th)) → va_S Ar s.heap H locs → ∀ (ls : Array Slot), lv_has ls 3 [(0, .ref (ad 0)), (1, .int (nI n)), (2, .int (nI j))] → W p l e R s m args below meth c H locs 0 0 Q (F0 m 12 ls []) := by
  intro fuel
  induction fuel with
  | zero => intro j hfu hj hI; exact absurd hfu (by omega)
  | succ fuel ih =>
    intro j hfu hj hI H locs hP hD hS ls hl
    have h60 := hg.2.1
    have h12 := (m_mv hg hm hn).2
    refine lv_iload_n hx hb dX1_best_12 rfl (lv_at hl 2 rfl) ?_
    refine lv_aload_n hx hb dX1_best_13 rfl (lv_at hl 0 rfl) ?_
    refine lv_iload_n hx hb dX1_best_14 rfl (lv_at hl 1 rfl) ?_
    refine g_calli ⟨hx, hb, hml, hown, hw⟩ (c_X1_joint l dC dI ad cz ci cj H.size (nI c0) fO fG fH fM fN fT fR fF fK fV fE th n (by omega)) (cwV 1 hw gv_X1_X1_joint rfl rfl rfl (by decide +kernel) ⟨Nat.le_trans (Nat.le_of_ble_eq_true rfl) hR1, Nat.le_trans (Nat.le_of_ble_eq_true rfl) hR2⟩) hK hP hD hS hA (ci := 1) (q0 := 0) rfl rfl rfl hl.1 rfl (Nat.le_of_ble_eq_true rfl) dX1_best_15 ⟨Nat.zero_le _, Nat.zero_le _⟩ (fun r_1 un H locs hq hP hD hS => ?_)
    obtain ⟨rfl, hq⟩ := hq
    have hP : va_P (dC, dI) vwCl (mw ad cz ci cj ((nI c0), fO, fG, fH, fM, fN, fT, fR, fF, fK, fV, fE, th)) H := hP
    have hD : va_D Ar (mw ad cz ci cj ((nI c0), fO, fG, fH, fM, fN, fT, fR, fF, fK, fV, fE, th)) := hD
    refine x_topi (y := nI (gmv sO sA sB n)) (by rw [hq]; exact (m_mv hg hm hn).1) ?_
    refine lv_icmp_ge (tgt := 54) hx hb dX1_best_18 (by decide) (fun c_2 => ?_) (fun c_2 => ?_)
    · exact kx  (by rw [show j = gmv sO sA sB n from (k_eq hj c_2 (by omega)).symm] at hI; exact hI) _ _ hP hD hS _ (lv_sub hl [0] rfl)
    · have hlt : j < gmv sO sA sB n := k_lt c_2 (by omega)
      have hre := s_re_ed (g_sok hg) hr hlt
      refine lv_aload_n hx hb dX1_best_21 rfl (lv_at hl 0 rfl) ?_
      refine va_get (D := (dC, dI)) (ci := 1) (v := .ref (ad 10)) (C := RX1) (T := TX1) (N := 13) hx hb hw in_X1 hown hK hP 0 rfl rfl 10 (by decide) (hw _ m_8_34) (fun _ h9 => h9) rfl dX1_best_22 ?_
      refine lv_aload_n hx hb dX1_best_25 rfl (lv_at hl 0 rfl) ?_
      refine va_get (D := (dC, dI)) (ci := 1) (v := .ref (ad 6)) (C := RX1) (T := TX1) (N := 13) hx hb hw in_X1 hown hK hP 0 rfl rfl 6 (by decide) (hw _ m_8_30) (fun _ h9 => h9) rfl dX1_best_26 ?_
      refine lv_bipush (v := 12) hx hb dX1_best_29 (by decide) ?_
      refine lv_iload_n hx hb dX1_best_31 rfl (lv_at hl 1 rfl) ?_
      refine lv_imul hx hb dX1_best_32 ?_
      refine x_topi (y := nI (n * 12)) ((pk_mul 12 n).trans (by rw [Nat.mul_comm])) ?_
      refine lv_iload_n hx hb dX1_best_33 rfl (lv_at hl 2 rfl) ?_
      refine lv_iadd hx hb dX1_best_34 ?_
      refine x_topi (y := nI (n * 12 + j)) (nI_add _ _) ?_
      have ht := m_tg hg hm hn hlt
      refine va_iald hx hb hK hP 6 1 rfl rfl (vp_in_nI (by omega) (by decide)) dX1_best_35 ?_
      refine x_topi (y := fT (n * 12 + j)) (by rw [nI_clamp (by omega)]) ?_
      refine x_topi (y := nI (gtg sT n j)) (ht.1) ?_
      refine va_iald hx hb hK hP 10 1 rfl rfl (vp_in_nI (by omega) (by decide)) dX1_best_36 ?_
      refine x_topi (y := fV (gtg sT n j)) (by rw [nI_clamp (by omega)]) ?_
      refine lv_aload_n hx hb dX1_best_37 rfl (lv_at hl 0 rfl) ?_
      refine va_get (D := (dC, dI)) (ci := 1) (v := .ref (ad 10)) (C := RX1) (T := TX1) (N := 13) hx hb hw in_X1 hown hK hP 0 rfl rfl 10 (by decide) (hw _ m_8_34) (fun _ h9 => h9) rfl dX1_best_38 ?_
      refine lv_iload_n hx hb dX1_best_41 rfl (lv_at hl 1 rfl) ?_
      refine va_iald hx hb hK hP 10 1 rfl rfl (vp_in_nI (by omega) (by decide)) dX1_best_42 ?_
      refine x_topi (y := fV n) (by rw [nI_clamp (by omega)]) ?_
      refine lv_icmp_ne (tgt := 48) hx hb dX1_best_43 (by decide) (fun cb_3 => ?_) (fun cb_3 => ?_)
      · refine lv_iinc (v := (nI (j + 1))) (lv' := [(2, .int (nI (j + 1))), (0, .ref (ad 0)), (1, .int (nI n))]) hx hb dX1_best_48 hl (k := 2) rfl (nI_1 j) (by decide) rfl (fun ls hl => ?_)
        refine lv_goto (tgt := 12) hx hb dX1_best_51 (by decide) ?_
        exact ih (j + 1) (by omega) (by omega) (fun i hi => by rcases Nat.lt_or_ge i j with q | q; exact hI i q; have e : i = j := (by omega); subst e; rw [← (hall _ hre).1, ← (hall n hr).1]; exact fun e => cb_3 (Int32.toInt_inj.mp e)) _ _ hP hD hS _ (lv_sub hl [1, 2, 0] rfl)
      · exact ky j hlt (by rw [← (hall _ hre).1, ← (hall n hr).1, cb_3]) hI _ _ hP hD hS _ (lv_sub hl [2] rfl)
set_option maxHeartbeats 4000000 in
set_option maxRecDepth 100000 in
theorem c_X1_best (l : Launch) (dC : Nat → ClassId) (dI : Nat → Nat → Nat) (ad : Nat → Nat) (cz ci cj : ClassId) (sz : Nat) (st : Int32) (fO : Nat → Int32) (fG : Nat → Int32) (fH : Nat → Int32) (fM : Nat → Int32) (fN : Nat → Int32) (fT : Nat → Int32) (fR : Nat → Int32) (fF : Nat → Int32) (fK : Nat → Int32) (fV : Nat → Int32) (fE : Nat → Int32) (th : Int32) (n : Int32) (sO sA sB sT : Nat → Int32) (c0 : Nat) (hg : g_ok c0 sO sA sB sT) (hm : m_rel c0 sO sA sB sT fO fG fH fM fN fT) : Met l yX1_best wX1_best ({ frames := 5, cells := 0, slots := 0, locals := 111 }) (va_Pc [.ref (ad 0), .int n] (g_Pre (dC, dI) vwCl (gty cz ci cj) (mw ad cz ci cj ((nI c0), fO, fG, fH, fM, fN, fT, fR, fF, fK, fV, fE, th)) sz)) (va_Qi (fun (r : Int32) (u : MS) => (∃ (fR2 fF2 fK2 fV2 fE2 : Nat → Int32) (k : Nat) (dk : Int32), g_df c0 (s_re c0 (gmv sO sA sB) (gtg sT)) (fun n => s_to c0 (gmv sO sA sB) (gtg sT) n n) (g_dn sO sA sB) dk (-1) ∧ k < c0 ∧ n = nI k ∧ gre c0 sO sA sB sT k ∧ ((∃ j, j < gmv sO sA sB k ∧ gval c0 sO sA sB sT (gtg sT k j) = gval c0 sO sA sB sT k ∧ (∀ i, i < j → gval c0 sO sA sB sT (gtg sT k i) ≠ gval c0 sO sA sB sT k) ∧ r = nI j) ∨ ((∀ i, i < gmv sO sA sB k → gval c0 sO sA sB sT (gtg sT k i) ≠ gval c0 sO sA sB sT k) ∧ r = -1)) ∧ u = ((nI c0), fO, fG, fH, fM, fN, fT, fR2, fF2, fK2, fV2, fE2, 0)) ∨ (∃ (fR2 fF2 : Nat → Int32) (dk ds : Int32), g_df c0 (s_re c0 (gmv sO sA sB) (gtg sT)) (fun n => s_to c0 (gmv sO sA sB) (gtg sT) n n) (g_dn sO sA sB) dk ds ∧ ¬ ds = -1 ∧ u = ((nI c0), fO, fG, fH, fM, fN, fT, fR2, fF2, fK, fV, fE, 1)) ∨ (∃ (fR2 fF2 : Nat → Int32) (dk : Int32), g_df c0 (s_re c0 (gmv sO sA sB) (gtg sT)) (fun n => s_to c0 (gmv sO sA sB) (gtg sT) n n) (g_dn sO sA sB) dk (-1) ∧ (∀ k, k < c0 → n = nI k → ¬ gre c0 sO sA sB sT k) ∧ u = ((nI c0), fO, fG, fH, fM, fN, fT, fR2, fF2, fK, fV, fE, 2))) (g_At (dC, dI) vwCl (gty cz ci cj) (va_A (mw ad cz ci cj ((nI c0), fO, fG, fH, fM, fN, fT, fR, fF, fK, fV, fE, th)) sz) (mw ad cz ci cj)) (va_A (mw ad cz ci cj ((nI c0), fO, fG, fH, fM, fN, fT, fR, fF, fK, fV, fE, th)) sz)) 0 0 (va_A (mw ad cz ci cj ((nI c0), fO, fG, fH, fM, fN, fT, fR, fF, fK, fV, fE, th)) sz) := by
  refine Met.ofW (cc := cX1_best) (maxL := 3) (ret := some .int) (by decide) rfl ?_
  intro p e s m args below meth c s₁ Bd hml hv
  obtain ⟨rfl, hsz, hP, hK, hD0⟩ := hv
  have hx := Bd.exec
  have hb := Bd.bytes
  have hr := Bd.returns
  have hts := atoms_spec (ws := wX1_best) Bd.pre
  have hw : ∀ w ∈ wAll, w.before _ s = true := fun w h => hts w (List.mem_cons_of_mem _ h)
  have hown : s.vm.findClass "GameGraphModel" = some m.cls := findClass_of_methodNamed Bd.named
  have hlocks := Bd.notSynchronized
  subst hsz
  have hD := hD0.self (sz := s.heap.size)
  generalize hAe : va_A (mw ad cz ci cj ((nI c0), fO, fG, fH, fM, fN, fT, fR, fF, fK, fV, fE, th)) s.heap.size = Ar at hD ⊢
  have hA : ∀ q : Nat, s.heap.size ≤ q → Ar q := fun q h => by rw [← hAe]; exact Or.inr h
  obtain ⟨H, hH⟩ : ∃ H : Heap, H = s.heap := ⟨_, rfl⟩
  have hS : va_S Ar s.heap H [] := by rw [hH]; exact va_S.rf
  have hP : va_P (dC, dI) vwCl (mw ad cz ci cj ((nI c0), fO, fG, fH, fM, fN, fT, fR, fF, fK, fV, fE, th)) H := by rw [hH]; exact hP
  rw [← hH]
  have hl := lv_entry ([.ref (ad 0), .int n]) (n := 3) (Nat.le_of_ble_eq_true rfl)
  rw [lg_entry_eq]
  generalize (lg_sl ([.ref (ad 0), .int n]) ++ List.replicate (3 - (lg_sl ([.ref (ad 0), .int n])).length) Slot.unset).toArray = ls at hl ⊢
  have hl : lv_has ls 3 [(0, .ref (ad 0)), (1, .int n)] := hl
  have h60 := hg.2.1
  refine lv_aload_n hx hb dX1_best_0 rfl (lv_at hl 0 rfl) ?_
  refine lv_iload_n hx hb dX1_best_1 rfl (lv_at hl 1 rfl) ?_
  refine g_calli ⟨hx, hb, hml, hown, hw⟩ (c_X1_asked l dC dI ad cz ci cj H.size (nI c0) fO fG fH fM fN fT fR fF fK fV fE th n sO sA sB sT c0 hg hm) (cwV 1 hw gv_X1_X1_asked rfl rfl rfl (by decide +kernel) ⟨Nat.le_of_ble_eq_true rfl, Nat.le_of_ble_eq_true rfl⟩) hK hP hD hS hA (ci := 1) (q0 := 0) rfl rfl rfl hl.1 rfl (Nat.le_of_ble_eq_true rfl) dX1_best_2 ⟨Nat.zero_le _, Nat.zero_le _⟩ (fun r_1 un H locs hq hP hD hS => ?_)
  rcases hq with ⟨fR2, fF2, fK2, fV2, fE2, k, dk, hdf, hk, rfl, hre, ⟨rfl, hall⟩, rfl⟩ | ⟨fR2, fF2, dk, ds, hdf, hds, rfl, rfl⟩ | ⟨fR2, fF2, dk, hdf, hno, rfl, rfl⟩
  · have hP : va_P (dC, dI) vwCl (mw ad cz ci cj ((nI c0), fO, fG, fH, fM, fN, fT, fR2, fF2, fK2, fV2, fE2, 0)) H := hP
    have hD : va_D Ar (mw ad cz ci cj ((nI c0), fO, fG, fH, fM, fN, fT, fR2, fF2, fK2, fV2, fE2, 0)) := hD
    refine lv_if_ne (tgt := 10) hx hb dX1_best_5 (by decide) (fun ca_2 => ?_) (fun ca_2 => ?_)
    · refine lv_iconst (v := 0) hx hb dX1_best_10 (by decide) ?_
      refine x_topi (y := nI 0) (rfl) ?_
      refine lv_istore_n (lv' := [(2, .int (nI 0)), (0, .ref (ad 0)), (1, .int (nI k))]) hx hb dX1_best_11 rfl hl (by decide) rfl (fun ls hl => ?_)
      refine lm_best (dC := dC) (dI := dI) (ad := ad) (cz := cz) (ci := ci) (cj := cj) (Ar := Ar) hx hb hml hown hw hK hA (Nat.le_of_ble_eq_true rfl) (Nat.le_of_ble_eq_true rfl) fO fG fH fM fN fT fR2 fF2 fK2 fV2 fE2 0 k sO sA sB sT c0 hg hm hk hre hall ?_ ?_ (gmv sO sA sB k + 1) 0 (by omega) (by omega) (fun k hk => absurd hk (Nat.not_lt_zero _)) _ _ hP hD hS _ (lv_sub hl [1, 2, 0] rfl)
      · intro  hI H locs hP hD hS ls hl
        refine lv_iconst (v := -1) hx hb dX1_best_54 (by decide) ?_
        exact W.iret (v := (-1)) hx hb hr (fun t ht hW => ⟨⟨(-1), ((nI c0), fO, fG, fH, fM, fN, fT, fR2, fF2, fK2, fV2, fE2, 0), rfl, (Or.inl ⟨fR2, fF2, fK2, fV2, fE2, k, dk, hdf, hk, rfl, hre, Or.inr ⟨hI, rfl⟩, rfl⟩), (by rw [ht]; exact hP), va_K.moved hW.alike hK, hD⟩, hS.F ht⟩) hS.2.2 dX1_best_55
      · intro j hlt heq hI H locs hP hD hS ls hl
        refine lv_iload_n hx hb dX1_best_46 rfl (lv_at hl 0 rfl) ?_
        exact W.iret (v := (nI j)) hx hb hr (fun t ht hW => ⟨⟨(nI j), ((nI c0), fO, fG, fH, fM, fN, fT, fR2, fF2, fK2, fV2, fE2, 0), rfl, (Or.inl ⟨fR2, fF2, fK2, fV2, fE2, k, dk, hdf, hk, rfl, hre, Or.inl ⟨j, hlt, heq, hI, rfl⟩, rfl⟩), (by rw [ht]; exact hP), va_K.moved hW.alike hK, hD⟩, hS.F ht⟩) hS.2.2 dX1_best_47
    · exact absurd ca_2 (by decide)
  · have hP : va_P (dC, dI) vwCl (mw ad cz ci cj ((nI c0), fO, fG, fH, fM, fN, fT, fR2, fF2, fK, fV, fE, 1)) H := hP
    have hD : va_D Ar (mw ad cz ci cj ((nI c0), fO, fG, fH, fM, fN, fT, fR2, fF2, fK, fV, fE, 1)) := hD
    refine lv_if_ne (tgt := 10) hx hb dX1_best_5 (by decide) (fun cb_2 => ?_) (fun cb_2 => ?_)
    · exact absurd rfl cb_2
    · refine lv_iconst (v := 0) hx hb dX1_best_8 (by decide) ?_
      exact W.iret (v := 0) hx hb hr (fun t ht hW => ⟨⟨0, ((nI c0), fO, fG, fH, fM, fN, fT, fR2, fF2, fK, fV, fE, 1), rfl, (Or.inr (Or.inl ⟨fR2, fF2, dk, ds, hdf, hds, rfl⟩)), (by rw [ht]; exact hP), va_K.moved hW.alike hK, hD⟩, hS.F ht⟩) hS.2.2 dX1_best_9
  · have hP : va_P (dC, dI) vwCl (mw ad cz ci cj ((nI c0), fO, fG, fH, fM, fN, fT, fR2, fF2, fK, fV, fE, 2)) H := hP
    have hD : va_D Ar (mw ad cz ci cj ((nI c0), fO, fG, fH, fM, fN, fT, fR2, fF2, fK, fV, fE, 2)) := hD
    refine lv_if_ne (tgt := 10) hx hb dX1_best_5 (by decide) (fun cc_2 => ?_) (fun cc_2 => ?_)
    · exact absurd rfl cc_2
    · refine lv_iconst (v := 0) hx hb dX1_best_8 (by decide) ?_
      exact W.iret (v := 0) hx hb hr (fun t ht hW => ⟨⟨0, ((nI c0), fO, fG, fH, fM, fN, fT, fR2, fF2, fK, fV, fE, 2), rfl, (Or.inr (Or.inr ⟨fR2, fF2, dk, hdf, hno, rfl⟩)), (by rw [ht]; exact hP), va_K.moved hW.alike hK, hD⟩, hS.F ht⟩) hS.2.2 dX1_best_9
