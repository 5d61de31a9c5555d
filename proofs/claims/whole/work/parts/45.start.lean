/-! THE CLAIM OUT OF ONE WALK OF THE LAW'S BODY. Your part is whole_start (and what it stands on); all else here is the same for every law, but numbers. -/
def R_law : String := "GameGraphLaw"
def lw_P (b : Addr) (xs : List Int32) (args : Array Value) (s : State) : Prop := args = #[.ref b] ∧ s.IntsAt b xs ∧ xs.length ≤ 2048 ∧ (Jvm.Cond.and given_1 narrow_1).before args s = true
def lw_Q (_ : Array Value) (s : State) (o : Outcome) (t : State) : Prop := o = .returned (some (.int 1)) ∧ Framed s o t [] 601024 7293034
def lw_Z (below : List Frame) (a : Array Value) (s : State) : State → Prop := fun t => ∃ o, t.status = .running ∧ Ended t below o ∧ lw_Q a s o t
/-- the law's own end, with 1 on the stack, nothing written that was there before, its room as the claim has it -/
theorem lw_ret {p : Program} {l : Launch} {e : Env} {s : State} {m : MethodId} {below : List Frame} {meth : Method} {c : Code} {b : Nat} (hx : p.tables.exec = Jvm.exec) (hb : c.code = code) (hr : meth.sig.returnType = ret) (hlocks : meth.locks = false) {pc : Nat} {H : Heap} {ls : Array Slot} (hdg : decode code pc = .ok (.ireturn, 1)) : W p l e room_1 s m #[Value.ref b] below meth c H [] 601024 7293034 (lw_Z below #[Value.ref b] s) (F0 m pc ls [.int 1]) := by
  intro T hT X
  obtain ⟨fs, hret, hrun, hended, hW, hframe⟩ := X.leave (v := some (.int 1)) (hlocks := hlocks) (fun h => by rw [hr] at h; cases h)
  have hmeth' : T.vm.method? m = some meth := X.method'
  refine ⟨T.setFrames fs, ?_, .returned (some (.int 1)), hrun, hended, rfl, ⟨_, rfl⟩, hW, hframe⟩
  jvm_step X.here [X.here.top, hx, hb, hdg, hmeth', hr, ret, narrow_b1]
  (try refine ⟨rfl, ?_⟩); (try refine ⟨rfl, ?_⟩)
  first | (intro acts; rw [hret _ acts rfl rfl rfl]) | rw [hret _ _ rfl rfl rfl]
  exact Steps.refl _
/-- what holds at the law's entry: the machine, the code, the tables' words (any of lw_tbl by 'hts w (by decide +kernel)'), the script of L ints xs at the cell b, what the Statement gives of the start (any of its parts by flat_of_before) -/
def lw_At (p : Program) (s : State) (m : MethodId) (meth : Method) (c : Code) (b L : Nat) (xs : Nat → Int32) : Prop :=
  p.tables.exec = Jvm.exec ∧ c.code = code ∧ meth.sig.returnType = ret ∧ c.maxLocals = 7 ∧ s.vm.findClass R_law = some m.cls ∧ (∀ w ∈ lw_tbl, w.before #[Value.ref b] s = true) ∧ va_X b L xs s s.heap ∧ b < s.heap.size ∧ meth.locks = false ∧ (Jvm.Cond.and given_1 narrow_1).before #[Value.ref b] s = true
theorem x_strs_of {args : Array Value} {s : State} (hts : ∀ w ∈ lw_tbl, w.before args s = true) (hgv : (Jvm.Cond.and given_1 narrow_1).before args s = true) : ∀ p ∈ x_strs, ∃ q, vk_R p.1 p.2.1 p.2.2 q s := by
  have hs := flat_of_before _ hgv
  intro p hp
  simp only [x_strs, List.mem_cons, List.not_mem_nil, or_false] at hp
  rcases hp with rfl | rfl | rfl | rfl | rfl | rfl | rfl | rfl
  · obtain ⟨a, _, _, _, q1, -⟩ := Cond.exactly_spec (hs (.exactly (.string "GameGraph" 42) "java/lang/String") (by decide +kernel))
    exact ⟨a, vk_R.of (hts (.stringRef "GameGraph" 42 "the number of states is not 1 .. 60") (by decide +kernel)) q1⟩
  · obtain ⟨a, _, _, _, q1, -⟩ := Cond.exactly_spec (hs (.exactly (.string "GameGraph" 117) "java/lang/String") (by decide +kernel))
    exact ⟨a, vk_R.of (hts (.stringRef "GameGraph" 117 "there is no such state") (by decide +kernel)) q1⟩
  · obtain ⟨a, _, _, _, q1, -⟩ := Cond.exactly_spec (hs (.exactly (.string "GameGraph" 54) "java/lang/String") (by decide +kernel))
    exact ⟨a, vk_R.of (hts (.stringRef "GameGraph" 54 "a goal is not -2 .. 100") (by decide +kernel)) q1⟩
  · obtain ⟨a, _, _, _, q1, -⟩ := Cond.exactly_spec (hs (.exactly (.string "GameGraph" 63) "java/lang/String") (by decide +kernel))
    exact ⟨a, vk_R.of (hts (.stringRef "GameGraph" 63 "a number of moves is not 0 .. 12, or the product is above 12") (by decide +kernel)) q1⟩
  · obtain ⟨a, _, _, _, q1, -⟩ := Cond.exactly_spec (hs (.exactly (.string "GameGraph" 123) "java/lang/String") (by decide +kernel))
    exact ⟨a, vk_R.of (hts (.stringRef "GameGraph" 123 "the state has no such joint move") (by decide +kernel)) q1⟩
  · obtain ⟨a, _, _, _, q1, -⟩ := Cond.exactly_spec (hs (.exactly (.string "GameGraph" 90) "java/lang/String") (by decide +kernel))
    exact ⟨a, vk_R.of (hts (.stringRef "GameGraph" 90 "what is not 0 or 1") (by decide +kernel)) q1⟩
  · obtain ⟨a, _, _, _, q1, -⟩ := Cond.exactly_spec (hs (.exactly (.string "GameGraph" 127) "java/lang/String") (by decide +kernel))
    exact ⟨a, vk_R.of (hts (.stringRef "GameGraph" 127 "the graph has a defect") (by decide +kernel)) q1⟩
  · obtain ⟨a, _, _, _, q1, -⟩ := Cond.exactly_spec (hs (.exactly (.string "GameGraph" 134) "java/lang/String") (by decide +kernel))
    exact ⟨a, vk_R.of (hts (.stringRef "GameGraph" 134 "there is no such state, or it is not reached") (by decide +kernel)) q1⟩
theorem x_En_of {args : Array Value} {s : State} (hts : ∀ w ∈ lw_tbl, w.before args s = true) (hgv : (Jvm.Cond.and given_1 narrow_1).before args s = true) : x_En (L_A s) s s.heap := by
  have hs := flat_of_before _ hgv
  refine ⟨vx_Zqof (hts _ (by decide +kernel)) (hts _ (by decide +kernel)) (hs _ (by decide +kernel)) (fun a h => Nat.not_le.mpr h), vx_Zqof (hts _ (by decide +kernel)) (hts _ (by decide +kernel)) (hs _ (by decide +kernel)) (fun a h => Nat.not_le.mpr h), fun w hw => va_Nw.of (x_bad_ot w hw) (hts w ((by decide +kernel : ∀ w ∈ x_bad, w ∈ lw_tbl) w hw)), x_strs_of hts hgv⟩
theorem x_N_of {args : Array Value} {s : State} (hgv : (Jvm.Cond.and given_1 narrow_1).before args s = true) : x_N s :=
  ⟨va_Nc.of (flat_of_before _ hgv _ (by decide +kernel)), va_Nc.of (flat_of_before _ hgv _ (by decide +kernel))⟩
theorem x_arr_of {args : Array Value} {s : State} {ty : FieldType} (h : (Cond.arrayClass ty).before args s = true) : ∃ cA : ClassId, ArrOfT s cA ty ∧ s.vm.findClass ("[" ++ ty.toString) = some cA := by
  obtain ⟨cA, kA, comp, h1, h2, h3⟩ := Cond.arrayClass_spec h
  exact ⟨cA, fun n z => ⟨fun k h => (by cases h), kA, h2, comp, h3⟩, h1⟩
theorem x_dfX0 : ∀ j, j < 13 → defaultValue (tyX0 j) = vp_V [.int 0, .null, .null, .null, .null, .int 0, .null, .long 0, .int 0, .int 0, .null, .null, .null] j := fun j hj => by
  rcases (show j = 0 ∨ j = 1 ∨ j = 2 ∨ j = 3 ∨ j = 4 ∨ j = 5 ∨ j = 6 ∨ j = 7 ∨ j = 8 ∨ j = 9 ∨ j = 10 ∨ j = 11 ∨ j = 12 by omega) with rfl | rfl | rfl | rfl | rfl | rfl | rfl | rfl | rfl | rfl | rfl | rfl | rfl <;> rfl
theorem x_dfX1 : ∀ j, j < 13 → defaultValue (tyX1 j) = vp_V [.int 0, .null, .null, .null, .null, .null, .null, .null, .null, .null, .null, .null, .int 0] j := fun j hj => by
  rcases (show j = 0 ∨ j = 1 ∨ j = 2 ∨ j = 3 ∨ j = 4 ∨ j = 5 ∨ j = 6 ∨ j = 7 ∨ j = 8 ∨ j = 9 ∨ j = 10 ∨ j = 11 ∨ j = 12 by omega) with rfl | rfl | rfl | rfl | rfl | rfl | rfl | rfl | rfl | rfl | rfl | rfl | rfl <;> rfl
theorem l_sw (v : Int32) : (v = 0 ∨ v = 1 ∨ v = 2 ∨ v = 3 ∨ v = 4 ∨ v = 5 ∨ v = 6 ∨ v = 7 ∨ v = 8 ∨ v = 9) ∨ (v.toInt < 0 ∨ 9 < v.toInt) := by
  by_cases h : v.toInt < 0 ∨ 9 < v.toInt
  · exact Or.inr h
  · refine Or.inl ?_
    have e : v = nI v.toInt.toNat := by
      rw [← Int32.toInt_inj, nI_toInt (by omega)]; omega
    rcases (show v.toInt.toNat = 0 ∨ v.toInt.toNat = 1 ∨ v.toInt.toNat = 2 ∨ v.toInt.toNat = 3 ∨ v.toInt.toNat = 4 ∨ v.toInt.toNat = 5 ∨ v.toInt.toNat = 6 ∨ v.toInt.toNat = 7 ∨ v.toInt.toNat = 8 ∨ v.toInt.toNat = 9 by omega) with h | h | h | h | h | h | h | h | h | h <;> rw [h] at e <;> rw [e] <;> decide
theorem l_len {L i : Nat} (hL : L ≤ 2048) (hi : i ≤ L) (h : ¬ Int32.ofNat L - 4 < nI i) : i + 4 ≤ L := by
  rcases Nat.lt_or_ge L 4 with q | q
  · refine absurd ?_ h
    rw [Int32.lt_iff_toInt_lt, nI_toInt (by omega)]
    rcases (show L = 0 ∨ L = 1 ∨ L = 2 ∨ L = 3 by omega) with rfl | rfl | rfl | rfl
    · have e : (Int32.ofNat 0 - 4).toInt = -4 := by decide
      omega
    · have e : (Int32.ofNat 1 - 4).toInt = -3 := by decide
      omega
    · have e : (Int32.ofNat 2 - 4).toInt = -2 := by decide
      omega
    · have e : (Int32.ofNat 3 - 4).toInt = -1 := by decide
      omega
  · have e : Int32.ofNat L - 4 = nI (L - 4) := by
      have h1 : Int32.ofNat L = nI (L - 4) + 4 := by
        show nI L = _
        rw [show L = (L - 4) + 4 by omega, ← nI_add]
        simp
        rfl
      rw [h1]
      simp
    rw [e, Int32.lt_iff_toInt_lt, nI_toInt (by omega), nI_toInt (by omega)] at h
    omega
set_option maxHeartbeats 4000000 in
set_option maxRecDepth 100000 in
/-- the law's loop -/
theorem law_loop {p : Program} {l : Launch} {e : Env} {s : State} {m : MethodId} {below : List Frame} {meth : Method} {c : Code} (hl0 : l.stackTraces = false) {b L : Nat} {xs : Nat → Int32} (hL : L ≤ 2048) (C0 : lw_At p s m meth c b L xs) {dC : Nat → ClassId} {dI : Nat → Nat → Nat} {cz ci cj : ClassId} {ax am : Nat → Nat} {qo : Nat} (hK : va_K (dC, dI) vwCl (gty cz ci cj) s) :
    ∀ (fuel k : Nat), L + 1 ≤ 4 * k + fuel → 4 * k ≤ L → L_W p l e s m b below meth c (lw_Z below #[Value.ref b] s) dC dI cz ci cj ax am qo (4 * k) 23 (22 + 3 * k) (2487 + 18 * k) := by
  obtain ⟨hx, hb, hr, hml, hown, hts, hX, hbl, hlocks, hgv⟩ := id C0
  have hw : ∀ w ∈ wAll, w.before #[Value.ref b] s = true := fun w h => hts w (wAll_in w h)
  have hE := x_En_of hts hgv
  have hN := x_N_of hgv
  intro fuel
  induction fuel with
  | zero => intro k h1 h2; exact absurd h1 (by omega)
  | succ fuel ih =>
    intro k hf hk u v hI fo H locs hPG hPO hPM hD hS ls hl
    refine lv_iload hx hb dL_law_23 (lv_at hl 4 rfl) ?_
    refine lv_aload_n hx hb dL_law_25 rfl (lv_at hl 0 rfl) ?_
    refine va_slen hx hb hX hbl (Nat.not_le.mpr hbl) hS dL_law_26 ?_
    refine lv_iconst (v := 4) hx hb dL_law_27 (by decide) ?_
    refine lv_isub hx hb dL_law_28 ?_
    refine lv_icmp_gt (tgt := 619) hx hb dL_law_29 (by decide) (fun c1 => ?_) (fun c1 => ?_)
    · refine lv_iconst (v := 1) hx hb dL_law_619 (by decide) ?_
      refine va_forget (fun q h => hS.2.2 q h) ?_
      refine W.widen (k := 601024) (n := 7293034) (by omega) (by omega) ?_
      exact lw_ret hx hb hr hlocks dL_law_620
    · have hi : 4 * k + 4 ≤ L := l_len hL hk c1
      have K : L_W p l e s m b below meth c (lw_Z below #[Value.ref b] s) dC dI cz ci cj ax am qo (4 * k) 613 (22 + 3 * k + 3) (2487 + 18 * k + 18) := by
        intro u v hI fo H locs hPG hPO hPM hD hS ls hl
        refine lv_iinc (v := nI (4 * (k + 1))) (lv' := [(4, .int (nI (4 * (k + 1)))), (0, .ref b), (1, .ref (ax 0)), (2, .ref (am 0)), (3, .ref qo)]) hx hb dL_law_613 hl (k := 4) rfl (nI_add (4 * k) 4) (by decide) rfl (fun ls hl => ?_)
        refine lv_goto (tgt := 23) hx hb dL_law_616 (by decide) ?_
        refine W.widen (k := 22 + 3 * (k + 1)) (n := 2487 + 18 * (k + 1)) (by omega) (by omega) ?_
        exact ih (k + 1) (by omega) (by omega) u v hI fo H locs hPG hPO hPM hD hS ls (lv_sub hl [1, 2, 3, 4, 0] rfl)
      refine lv_aload_n hx hb dL_law_32 rfl (lv_at hl 0 rfl) ?_
      refine lv_iload hx hb dL_law_33 (lv_at hl 4 rfl) ?_
      refine va_sld hx hb hX hbl (Nat.not_le.mpr hbl) hS (vp_in_nI (by omega) (by omega)) dL_law_35 ?_
      refine lv_bipush (v := 15) hx hb dL_law_36 (by decide) ?_
      refine lv_iand hx hb dL_law_38 ?_
      refine lv_topi (fun v0 ev0 => ?_)
      clear ev0
      rcases l_sw v0 with h0 | h0
      · rcases h0 with rfl | rfl | rfl | rfl | rfl | rfl | rfl | rfl | rfl | rfl
        · refine lv_tableIn (tgt := 92) hx hb dL_law_39 (by decide) (by decide) rfl (by decide) ?_
          exact lw_c0 hl0 hx hb hml hown hw hX hbl hK hE hN hL hi (by omega) (by omega) K u v hI fo H locs hPG hPO hPM hD hS ls hl
        · refine lv_tableIn (tgt := 128) hx hb dL_law_39 (by decide) (by decide) rfl (by decide) ?_
          exact lw_c1 hl0 hx hb hml hown hw hX hbl hK hE hN hL hi (by omega) (by omega) K u v hI fo H locs hPG hPO hPM hD hS ls hl
        · refine lv_tableIn (tgt := 188) hx hb dL_law_39 (by decide) (by decide) rfl (by decide) ?_
          exact lw_c2 hl0 hx hb hml hown hw hX hbl hK hE hN hL hi (by omega) (by omega) K u v hI fo H locs hPG hPO hPM hD hS ls hl
        · refine lv_tableIn (tgt := 248) hx hb dL_law_39 (by decide) (by decide) rfl (by decide) ?_
          exact lw_c3 hl0 hx hb hml hown hw hX hbl hK hE hN hL hi (by omega) (by omega) K u v hI fo H locs hPG hPO hPM hD hS ls hl
        · refine lv_tableIn (tgt := 308) hx hb dL_law_39 (by decide) (by decide) rfl (by decide) ?_
          exact lw_c4 hl0 hx hb hml hown hw hX hbl hK hE hN hL hi (by omega) (by omega) K u v hI fo H locs hPG hPO hPM hD hS ls hl
        · refine lv_tableIn (tgt := 376) hx hb dL_law_39 (by decide) (by decide) rfl (by decide) ?_
          exact lw_c5 hl0 hx hb hml hown hw hX hbl hK hE hN hL hi (by omega) (by omega) K u v hI fo H locs hPG hPO hPM hD hS ls hl
        · refine lv_tableIn (tgt := 389) hx hb dL_law_39 (by decide) (by decide) rfl (by decide) ?_
          exact lw_c6 hl0 hx hb hml hown hw hX hbl hK hE hN hL hi (by omega) (by omega) K u v hI fo H locs hPG hPO hPM hD hS ls hl
        · refine lv_tableIn (tgt := 445) hx hb dL_law_39 (by decide) (by decide) rfl (by decide) ?_
          exact lw_c7 hl0 hx hb hml hown hw hX hbl hK hE hN hL hi (by omega) (by omega) K u v hI fo H locs hPG hPO hPM hD hS ls hl
        · refine lv_tableIn (tgt := 501) hx hb dL_law_39 (by decide) (by decide) rfl (by decide) ?_
          exact lw_c8 hl0 hx hb hml hown hw hX hbl hK hE hN hL hi (by omega) (by omega) K u v hI fo H locs hPG hPO hPM hD hS ls hl
        · refine lv_tableIn (tgt := 557) hx hb dL_law_39 (by decide) (by decide) rfl (by decide) ?_
          exact lw_c9 hl0 hx hb hml hown hw hX hbl hK hE hN hL hi (by omega) (by omega) K u v hI fo H locs hPG hPO hPM hD hS ls hl
      · refine lv_tableOut (tgt := 613) hx hb dL_law_39 h0 (by decide) ?_
        refine W.widen (k := 22 + 3 * k + 3) (n := 2487 + 18 * k + 18) (by omega) (by omega) ?_
        exact K u v hI fo H locs hPG hPO hPM hD hS ls hl
set_option maxHeartbeats 4000000 in
set_option maxRecDepth 100000 in
/-- THE LAW, from its entry -/
theorem whole_start {p : Program} {e : Env} {s : State} {m : MethodId} {below : List Frame} {meth : Method} {c : Code} (l : Launch) (hl0 : l.stackTraces = false) {b L : Nat} {xs : Nat → Int32} (hL : L ≤ 2048) (C0 : lw_At p s m meth c b L xs) : W p l e room_1 s m #[Value.ref b] below meth c s.heap [] 0 0 (lw_Z below #[Value.ref b] s) (entryFrame m ([Value.ref b] : List Value).toArray 7) := by
  obtain ⟨hx, hb, hr, hml, hown, hts, hX, hbl, hlocks, hgv⟩ := id C0
  have hw : ∀ w ∈ wAll, w.before #[Value.ref b] s = true := fun w h => hts w (wAll_in w h)
  have hA : ∀ q : Nat, s.heap.size ≤ q → L_A s q := fun _ h => h
  have hown : s.vm.findClass "GameGraphLaw" = some m.cls := hown
  obtain ⟨k0, iS0, hKn0⟩ := u_known (C := RX0) (T := TX0) (N := 13) (n := 13) hw in_X0 (hw (.instantiable "GameGraph" 13) m_1_5)
  obtain ⟨k1, iS1, hKn1⟩ := u_known (C := RX1) (T := TX1) (N := 13) (n := 13) hw in_X1 (hw (.instantiable "GameGraphModel" 13) m_8_19)
  obtain ⟨dC, dI, hKc⟩ : ∃ (dC : Nat → ClassId) (dI : Nat → Nat → Nat), ∀ (k : Nat) (q : vw_C), vwCl[k]? = some q → u_Kn s q.1 q.2.1 q.2.2 (dC k) (dI k) := by
    refine ⟨fun k => if k = 0 then k0 else k1, fun k => if k = 0 then iS0 else iS1, ?_⟩
    intro k q hq
    match k, hq with
    | 0, hq => cases hq; exact hKn0
    | 1, hq => cases hq; exact hKn1
    | k + 2, hq => simp at hq
  obtain ⟨cz, hz1, hz2⟩ := x_arr_of (ty := .boolean) (hw _ m_2_18)
  obtain ⟨ci, hi1, hi2⟩ := x_arr_of (ty := .int) (hw _ m_2_19)
  obtain ⟨cj, hj1, hj2⟩ := x_arr_of (ty := .long) (hw _ m_2_20)
  have hK : va_K (dC, dI) vwCl (gty cz ci cj) s := ⟨hKc, fun k q h => by
    match k, h with
    | 0, h => cases h; exact ⟨hz1, hz2⟩
    | 1, h => cases h; exact ⟨hi1, hi2⟩
    | 2, h => cases h; exact ⟨hj1, hj2⟩
    | k + 3, h => simp at h⟩
  have hS : va_S (L_A s) s.heap s.heap [] := va_S.rf
  have hP : va_P (dC, dI) vwCl [] s.heap := fun k q h => by simp at h
  have hP0 := hP
  have hD : va_D (L_A s) [] := ⟨fun i j p q h => by simp at h, fun k q h => by simp at h⟩
  have hl := lv_entry ([.ref b]) (n := 7) (Nat.le_of_ble_eq_true rfl)
  rw [lg_entry_eq]
  generalize (lg_sl ([.ref b]) ++ List.replicate (7 - (lg_sl ([.ref b])).length) Slot.unset).toArray = ls at hl ⊢
  have hl : lv_has ls 7 [(0, .ref b)] := hl
  refine va_new (ci := 0) (fs := [.int 0, .null, .null, .null, .null, .int 0, .null, .long 0, .int 0, .int 0, .null, .null, .null]) (C := RX0) (T := TX0) (N := 13) hx hb hw in_X0 tyX0 tyX0_ok hown (hw _ m_1_4) (hw _ m_1_5) (hw _ m_0_34) hK hP hD hS hA rfl x_dfX0 (by show 0 + 1 ≤ 601024; decide) (by show 0 + 13 ≤ 7293034; decide) dL_law_0 (fun q0 H hP hD hS => ?_)
  refine W.widen (k := 1) (n := 13) (by decide) (by decide) ?_
  refine lv_dup hx hb dL_law_3 rfl ?_
  refine g_calljR (b := q0) (w := [(q0, .inr (0, [.int 0, .null, .null, .null, .null, .int 0, .null, .long 0, .int 0, .int 0, .null, .null, .null]))]) (wr := []) ⟨hx, hb, hml, hown, hw⟩ (c_X0_init l dC dI q0 cz ci cj H.size) (cwI 0 hw gi_L_X0_init rfl rfl rfl (hw (.initialized "GameGraph") m_0_34) (hw (.methodLink "GameGraphLaw" 46 yX0_init) m_1_6) (hw (.instanceMethod yX0_init) m_1_7) rfl (by decide +kernel) ⟨Nat.le_of_ble_eq_true rfl, Nat.le_of_ble_eq_true rfl⟩) hK hP (fun k q h => by simp at h) hD hS hA hl.1 rfl (Nat.le_of_ble_eq_true rfl) dL_law_4 (by refine ⟨?_, ?_⟩; show 1 + 8 ≤ 601024; decide; show 13 + 1140 ≤ 7293034; decide) (fun u1 H locs hq hPG _ hD hS => ?_)
  obtain ⟨ax, u⟩ := u1
  obtain ⟨eq0, fO2, fA2, fB2, fT2, hev, eu⟩ := hq
  dsimp only at eq0 eu hPG hD
  subst eq0 eu
  have hD := x_Dl hD
  refine W.widen (k := 9) (n := 1153) (by decide) (by decide) ?_
  refine lv_astore_n (lv' := [(1, .ref (ax 0)), (0, .ref b)]) hx hb dL_law_7 rfl hl (by decide) rfl (fun ls hl => ?_)
  refine va_new (ci := 1) (fs := [.int 0, .null, .null, .null, .null, .null, .null, .null, .null, .null, .null, .null, .int 0]) (C := RX1) (T := TX1) (N := 13) hx hb hw in_X1 tyX1 tyX1_ok hown (hw _ m_8_18) (hw _ m_8_19) (hw _ m_0_35) hK hPG hD hS hA rfl x_dfX1 (by show 9 + 1 ≤ 601024; decide) (by show 1153 + 13 ≤ 7293034; decide) dL_law_8 (fun q1 H hP hD hS => ?_)
  have hPG := x_Pl hP
  have hPq := x_Pr hP
  refine W.widen (k := 10) (n := 1166) (by decide) (by decide) ?_
  refine lv_dup hx hb dL_law_11 rfl ?_
  refine g_calljR (b := q1) (w := [(q1, .inr (1, [.int 0, .null, .null, .null, .null, .null, .null, .null, .null, .null, .null, .null, .int 0]))]) ⟨hx, hb, hml, hown, hw⟩ (c_X1_init l dC dI q1 cz ci cj H.size) (cwI 0 hw gi_L_X1_init rfl rfl rfl (hw (.initialized "GameGraphModel") m_0_35) (hw (.methodLink "GameGraphLaw" 49 yX1_init) m_8_20) (hw (.instanceMethod yX1_init) m_8_21) rfl (by decide +kernel) ⟨Nat.le_of_ble_eq_true rfl, Nat.le_of_ble_eq_true rfl⟩) hK hPq hPG (x_Ds hD) hS hA hl.1 rfl (Nat.le_of_ble_eq_true rfl) dL_law_12 (by refine ⟨?_, ?_⟩; show 10 + 11 ≤ 601024; decide; show 1166 + 1320 ≤ 7293034; decide) (fun u1 H locs hq hPM hPG hD hS => ?_)
  obtain ⟨am, v⟩ := u1
  obtain ⟨eq1, ev⟩ := hq
  dsimp only at eq1 ev hPM hD
  subst eq1 ev
  refine W.widen (k := 21) (n := 2486) (by decide) (by decide) ?_
  refine lv_astore_n (lv' := [(2, .ref (am 0)), (1, .ref (ax 0)), (0, .ref b)]) hx hb dL_law_15 rfl hl (by decide) rfl (fun ls hl => ?_)
  refine lv_iconst (v := 1) hx hb dL_law_16 (by decide) ?_
  refine x_newa (atype := .long) (ty := .long) (a0 := (1, .inr (.inl (fun _ => 0)))) (N' := 1) hx hb (hw _ m_2_20) rfl hK (hPM.app hPG) hD hS hA 2 (cA := cj) rfl (x_al 1) (by decide) (by decide) (by decide +kernel) (by show 21 + 1 ≤ 601024; decide) (by show 2486 + 1 ≤ 7293034; decide) dL_law_17 (fun qo H hP hD hS => ?_)
  have hPM := x_Pl (x_Pl hP)
  have hPG := x_Pr (x_Pl hP)
  have hPO := x_Pr hP
  have hD := x_D4 (x_D2 hD)
  refine W.widen (k := 22) (n := 2487) (by decide) (by decide) ?_
  refine lv_astore_n (lv' := [(3, .ref qo), (2, .ref (am 0)), (1, .ref (ax 0)), (0, .ref b)]) hx hb dL_law_19 rfl hl (by decide) rfl (fun ls hl => ?_)
  refine lv_iconst (v := 0) hx hb dL_law_20 (by decide) ?_
  refine lv_istore (lv' := [(4, .int 0), (3, .ref qo), (2, .ref (am 0)), (1, .ref (ax 0)), (0, .ref b)]) hx hb dL_law_21 hl (by decide) rfl (fun ls hl => ?_)
  have hl : lv_has ls 7 [(4, .int (nI (4 * 0))), (3, .ref qo), (2, .ref (am 0)), (1, .ref (ax 0)), (0, .ref b)] := hl
  have hI : L_I (nI 1, fO2, fA2, fB2, fT2, 0, (fun _ => 0), 0, 0, 0, (fun _ => 0), (fun _ => 0), (fun _ => 0)) (1, (fun _ => 0), upd (fun _ => 0) 0 50, upd (fun _ => 0) 0 50, (fun _ => 0), (fun _ => 0), (fun _ => 0), (fun _ => 0), (fun _ => 0), (fun _ => 0), (fun _ => 0), (fun _ => 0), 0) :=
    ⟨1, rfl, rfl, l_ok_st (by decide) (by decide) hev, Or.inl rfl, l_re_st hev (fun k hk => by have e : k = 0 := (by omega); subst e; exact ⟨rfl, (by show upd (fun _ => 0) 0 50 0 = 50; exact pk_us), (by show upd (fun _ => 0) 0 50 0 = 50; exact pk_us)⟩)⟩
  exact law_loop hl0 hL C0 hK (L + 1) 0 (by omega) (by omega) _ _ hI _ _ _ hPG hPO hPM hD hS ls (lv_sub hl [4, 3, 2, 1, 0] rfl)
set_option maxHeartbeats 4000000 in
theorem lw_walk (l : Launch) (hl0 : l.stackTraces = false) (b : Addr) (xs : List Int32) : MetFree l x (headSpec (Jvm.Cond.code x code maxLocals ret :: tables_1) room_1) (lw_P b xs) (fun _ _ _ _ _ => True) lw_Q := by
  refine MetFree.of_bodyS (code := code) (maxLocals := maxLocals) (ret := ret) (by decide) ?_ ?_
  · intro args s m h hn
    obtain ⟨meth, c, h1, h2, h3, h4, h5, h6, -, -⟩ := Cond.code_spec hn (atoms_spec (ws := Jvm.Cond.code x code maxLocals ret :: tables_1) h _ List.mem_cons_self)
    exact ⟨meth, c, h1, h2, h3, h4, h5, h6⟩
  · intro p e s m args below meth c s₁ B hml0 hP _
    obtain ⟨rfl, hx, hbd, hgv⟩ := hP
    obtain ⟨scr, harrAt, hlist, hof, hsmall⟩ := hx
    obtain ⟨hcb, hkn, -, -⟩ := State.arrayAt?_spec harrAt
    have hown : s.vm.findClass R_law = some m.cls := findClass_of_methodNamed B.named
    have hts0 : ∀ c ∈ (Jvm.Cond.code x code maxLocals ret :: tables_1), c.before #[Value.ref b] s = true := atoms_spec (ws := Jvm.Cond.code x code maxLocals ret :: tables_1) B.pre
    have hts : ∀ w ∈ lw_tbl, w.before #[Value.ref b] s = true := k2_hts_sels lw_privs (fun w hw => hts0 w (List.mem_cons_of_mem _ hw)) lw_privs_ok
    have hml : c.maxLocals = 7 := B.maxLocals_eq (hts0 _ List.mem_cons_self)
    have X₀ : Stand p l e room_1 s m #[Value.ref b] below meth c s₁ [] 0 0 := Stand.of_body B
    have hh0 : s₁.heap = s.heap := by rw [B.state]; rfl
    have hsz : scr.slots.size = xs.length := by rw [← Array.length_toList, hlist, List.length_map]
    have hval : ∀ j : Nat, j < xs.length → scr.slots[j]? = some (.int (xs.getD j 0)) := fun j hj => by
      rw [← Array.getElem?_toList, hlist]
      simp [hj]
    have hbl : b < s.heap.size := (Array.getElem?_eq_some_iff.mp hcb).1
    have hX : va_X b xs.length (fun j => xs.getD j 0) s s.heap := ⟨scr, hcb, hof, hkn, hsz, hval⟩
    have K : W p l e room_1 s m #[Value.ref b] below meth c s₁.heap [] 0 0 (lw_Z below #[Value.ref b] s) (entryFrame m ([Value.ref b] : List Value).toArray 7) := by
      rw [hh0]
      exact whole_start l hl0 hbd ⟨B.exec, B.bytes, B.returns, hml, hown, hts, hX, hbl, B.notSynchronized, hgv⟩
    obtain ⟨t, a1, o, b1, b2, b3⟩ := K s₁ rfl X₀
    exact ⟨t, o, a1, b1, b2, b3⟩
theorem lw_pre_spec {args : Array Value} {s : State} (h : (Jvm.Cond.and given_1 narrow_1).before args s = true) (hr : rest_1_c.before args s = true) : ∃ (b : Addr) (xs : List Int32), lw_P b xs args s := by
  have hs := flat_of_before _ h
  have hq := flat_of_before _ hr
  have hc : (Cond.count 1).before args s = true := hs _ (by decide +kernel)
  have harr : (Cond.arrayOf (.arg 0) .int).before args s = true := hs _ (by decide +kernel)
  have hle : (Cond.le (.length (.arg 0)) (.int 2048)).before args s = true := hs _ (by decide +kernel)
  have hlen : (Cond.isInt (.length (.arg 0))).before args s = true := hq _ (by decide +kernel)
  have hall : (Cond.all (.arg 0) (.isInt (.elem (.arg 0) (.index 0)))).before args s = true := hq _ (by decide +kernel)
  obtain ⟨b, xs, hb, hx⟩ := State.ints_of_pre rfl harr hlen hall
  have hsm : xs.length < 2 ^ 31 := hx.choose_spec.2.2.2
  have hev : (Term.length (.arg 0)).eval args s none [] s = some (.int xs.length.toInt32) := hx.length_eval hb
  have hv := Cond.le_ints hev (show (Term.int 2048).eval args s none [] s = some (.int 2048) from rfl)
  have hd : xs.length.toInt32 ≤ 2048 := by
    simpa [Cond.before, Cond.holds, hv] using hle
  have hN : xs.length ≤ 2048 := (Int32.ofNat_le_ofNat hsm (by decide)).mp (show Int32.ofNat xs.length ≤ Int32.ofNat 2048 from hd)
  exact ⟨b, xs, Cond.one_arg hc (show args[0]? = some (.ref b) from hb), hx, hN, h⟩
theorem lw_comes (l : Launch) (hl0 : l.stackTraces = false) : Comes l x (Jvm.Cond.code x code maxLocals ret :: tables_1) room_1 (fun tb e args s => Calls_1 tb e args s ∧ rest_1 tb e args s ∧ Pre_1 tb e args s)
    (fun _ _ args s o t => lw_Q args s o t) := by
  intro p e ha hc hk s m args below hf hfit hheap happ hpre
  obtain ⟨b, xs, hP⟩ := lw_pre_spec hpre.2.2 hpre.2.1
  obtain ⟨k, o, h1, h2, h3, hQ⟩ := lw_walk l hl0 b xs p e ha hc hk s m args below hf ((Spec.applies_iff_loose hf).mp happ).1 hP trivial
  exact ⟨k, o, h1, h2, h3, hQ⟩
theorem lw_frame {s t : State} {o : Outcome} {args : Array Value} (h : Framed s o t [] 601024 7293034) :
    Framed s o t (fieldLocs frame_1_writes args s ++ arrayLocs frame_1_arrays args s ++ staticLocs frame_1_statics s) 601024 7293034 := h
theorem lw_limb (L : Cond) (hL : ∀ (args : Array Value) (s t : State), L.after args s (.returned (some (.int 1))) t = true) :
    ArmFor flags0 classFile x code maxLocals ret World_1 tables_1 room_1 Calls_1 rest_1 Pre_1
      (fun tb e a s o t => postC L tb e a s o t ∧ Framed s o t (fieldLocs frame_1_writes a s ++ arrayLocs frame_1_arrays a s ++ staticLocs frame_1_statics s) 601024 7293034) := by
  intro l hfl _ _ p e ha hc hk s m args below hf hfit hheap happ hpre
  obtain ⟨k, o, h1, h2, h3, rfl, hF⟩ := lw_comes l (by unfold Launch.stackTraces; rw [hfl]; decide +kernel) p e ha hc hk s m args below hf hfit hheap happ hpre
  exact ⟨k, _, h1, h2, h3, hL args s _, lw_frame hF⟩
