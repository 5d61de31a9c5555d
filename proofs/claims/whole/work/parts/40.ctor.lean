/-! The constructors (by tool/ctor.py). -/
section XN
variable {p : Program} {l : Launch} {e : Env} {R : Room} {s : State} {m : MethodId} {args : Array Value} {below : List Frame} {meth : Method} {c : Code} {H : Heap} {locs : List Loc} {cells slots : Nat} {Q : State → Prop}
variable {cc : ByteArray} {pc : Nat} {ls : Array Slot} {rest : List Value} {D : va_G} {cl : List vw_C} {A : Nat → Prop} {tys : List (ClassId × FieldType)} {ws : va_W} {H0 : Heap}
/-- a new array of a class that is known -/
theorem x_newa (hexec : p.tables.exec = Jvm.exec) (hb : c.code = cc) {atype : ArrayType} (harr : (Cond.arrayClass (newarray.typeOf atype)).before args s = true) {ty : FieldType} (hty : newarray.typeOf atype = ty) (hK : va_K D cl tys s) (hP : va_P D cl ws H) (hD : va_D A ws) (hS : va_S A H0 H locs) (hA : ∀ q, H0.size ≤ q → A q)
    (t0 : Nat) {cA : ClassId} (ht : tys[t0]? = some (cA, ty)) {n : Int32} {N' : Nat} {a0 : vp_A} (ha : ∀ cA : ClassId, vp_cell cA a0 = arrV cA N' (fun _ => defaultValue ty)) (hn : ¬ n < 0) (hN : n.toNatClampNeg = N') (hbytes : N' * componentBytes ty ≤ 536870912) (hcells : cells + 1 ≤ R.cells) (hslots : slots + N' ≤ R.slots) (hdg : decode cc pc = .ok (.newarray atype, 2))
    (kk : ∀ (q : Nat) (H1 : Heap), va_P D cl (ws ++ [(q, .inl (cA, a0))]) H1 → va_D A (ws ++ [(q, .inl (cA, a0))]) → va_S A H0 H1 locs →
      W p l e R s m args below meth c H1 locs (cells + 1) (slots + N') Q (F0 m (pc + 2) ls (.ref q :: rest))) : W p l e R s m args below meth c H locs cells slots Q (F0 m pc ls (.int n :: rest)) := by
  refine va_newa hexec hb harr hty hK hP hD hS hA ha hn hN hbytes hcells hslots hdg (fun q cB H1 hK1 hP1 hD1 hS1 => ?_)
  have h1 := (hK1.2 tys.length (cB, ty) (by rw [List.getElem?_append_right (Nat.le_refl _)]; simp)).2
  have h2 := (hK.2 t0 (cA, ty) ht).2
  have e : cB = cA := by
    subst hty
    cases atype <;> exact Option.some.inj (h1.symm.trans h2)
  subst e
  exact kk q H1 hP1 hD1 hS1
end XN
theorem x_ai (n : Nat) (cA : ClassId) : vp_cell cA (n, .inl (fun _ => 0)) = arrV cA n (fun _ => defaultValue .int) := rfl
theorem x_az (n : Nat) (cA : ClassId) : vp_cell cA (n, .inl (fun _ => 0)) = arrV cA n (fun _ => defaultValue .boolean) := rfl
theorem x_al (n : Nat) (cA : ClassId) : vp_cell cA (n, .inr (.inl (fun _ => 0))) = arrV cA n (fun _ => defaultValue .long) := rfl
theorem x_byi : 60 * componentBytes .int ≤ 536870912 := by decide +kernel
theorem x_byz : 60 * componentBytes .boolean ≤ 536870912 := by decide +kernel
theorem x_byl : 60 * componentBytes .long ≤ 536870912 := by decide +kernel
theorem x_by720 : 720 * componentBytes .int ≤ 536870912 := by decide +kernel
set_option maxHeartbeats 4000000 in
set_option maxRecDepth 100000 in
/-- the constructor -/
theorem c_X0_init (l : Launch) (dC : Nat → ClassId) (dI : Nat → Nat → Nat) (h0 : Nat) (cz ci cj : ClassId) (sz : Nat) : Met l yX0_init wX0_init ({ frames := 2, cells := 8, slots := 1140, locals := 47 }) (va_Pc [.ref h0] (g_Pre (dC, dI) vwCl (gty cz ci cj) [(h0, .inr (0, [.int 0, .null, .null, .null, .null, .int 0, .null, .long 0, .int 0, .int 0, .null, .null, .null]))] sz)) (va_Qv (fun (u : (Nat → Nat) × GS) => u.1 0 = h0 ∧ ∃ fO2 fA2 fB2 fT2 : Nat → Int32, (∀ k, k < 1 → fO2 k = 0 ∧ fA2 k = 50 ∧ fB2 k = 50 ∧ ∀ j, j < 12 → fT2 (k * 12 + j) = 0) ∧ u.2 = (nI 1, fO2, fA2, fB2, fT2, 0, (fun _ => 0), 0, 0, 0, (fun _ => 0), (fun _ => 0), (fun _ => 0))) (g_At (dC, dI) vwCl (gty cz ci cj) (va_A [(h0, .inr (0, [.int 0, .null, .null, .null, .null, .int 0, .null, .long 0, .int 0, .int 0, .null, .null, .null]))] sz) (fun (u : (Nat → Nat) × GS) => gw u.1 cz ci cj u.2)) (va_A [(h0, .inr (0, [.int 0, .null, .null, .null, .null, .int 0, .null, .long 0, .int 0, .int 0, .null, .null, .null]))] sz)) 8 1140 (va_A [(h0, .inr (0, [.int 0, .null, .null, .null, .null, .int 0, .null, .long 0, .int 0, .int 0, .null, .null, .null]))] sz) := by
  refine Met.ofW (cc := cX0_init) (maxL := 1) (ret := none) (by decide) rfl ?_
  intro p e s m args below meth c s₁ Bd hml hv
  obtain ⟨rfl, hsz, hP, hK, hD0⟩ := hv
  have hx := Bd.exec
  have hb := Bd.bytes
  have hr := Bd.returns
  have hts := atoms_spec (ws := wX0_init) Bd.pre
  have hw : ∀ w ∈ wAll, w.before _ s = true := fun w h => hts w (List.mem_cons_of_mem _ h)
  have hown : s.vm.findClass "GameGraph" = some m.cls := findClass_of_methodNamed Bd.named
  have hlocks := Bd.notSynchronized
  have hin : meth.name = "<init>" := (name_of_methodNamed Bd.named Bd.method).1
  subst hsz
  have hD := hD0.self (sz := s.heap.size)
  generalize hAe : va_A [(h0, .inr (0, [.int 0, .null, .null, .null, .null, .int 0, .null, .long 0, .int 0, .int 0, .null, .null, .null]))] s.heap.size = Ar at hD ⊢
  have hA : ∀ q : Nat, s.heap.size ≤ q → Ar q := fun q h => by rw [← hAe]; exact Or.inr h
  obtain ⟨H, hH⟩ : ∃ H : Heap, H = s.heap := ⟨_, rfl⟩
  have hS : va_S Ar s.heap H [] := by rw [hH]; exact va_S.rf
  have hP : va_P (dC, dI) vwCl [(h0, .inr (0, [.int 0, .null, .null, .null, .null, .int 0, .null, .long 0, .int 0, .int 0, .null, .null, .null]))] H := by rw [hH]; exact hP
  rw [← hH]
  have hl := lv_entry ([.ref h0]) (n := 1) (Nat.le_of_ble_eq_true rfl)
  rw [lg_entry_eq]
  generalize (lg_sl ([.ref h0]) ++ List.replicate (1 - (lg_sl ([.ref h0])).length) Slot.unset).toArray = ls at hl ⊢
  have hl : lv_has ls 1 [(0, .ref h0)] := hl
  refine lv_aload_n hx hb dX0_init_0 rfl (lv_at hl 0 rfl) ?_
  refine W.objInit hx hb hown (hw _ m_1_9) (hw _ m_1_10) (hw _ m_1_11) rfl (by rw [hml]; exact hl.1) rfl dX0_init_1 (Nat.le_of_ble_eq_true rfl) (Nat.le_of_ble_eq_true rfl) ?_
  refine W.eq (g2 := F0 m 4 ls []) rfl ?_
  refine lv_aload_n hx hb dX0_init_4 rfl (lv_at hl 0 rfl) ?_
  refine lv_bipush (v := 60) hx hb dX0_init_5 (by decide) ?_
  refine x_newa (atype := .boolean) (ty := .boolean) (a0 := (60, .inl (fun _ => 0))) (N' := 60) hx hb (hw _ m_2_18) rfl hK hP hD hS hA 0 (cA := cz) rfl (x_az 60) (by decide) (by decide) x_byz (Nat.le_of_ble_eq_true rfl) (Nat.le_of_ble_eq_true rfl) dX0_init_7 (fun q1 H hP hD hS => ?_)
  have hP : va_P (dC, dI) vwCl [(h0, .inr (0, [.int 0, .null, .null, .null, .null, .int 0, .null, .long 0, .int 0, .int 0, .null, .null, .null])), (q1, .inl (cz, 60, .inl (fun _ => 0)))] H := hP
  have hD : va_D Ar [(h0, .inr (0, [.int 0, .null, .null, .null, .null, .int 0, .null, .long 0, .int 0, .int 0, .null, .null, .null])), (q1, .inl (cz, 60, .inl (fun _ => 0)))] := hD
  refine W.widen (k := 1) (n := 60) (by decide) (by decide) ?_
  refine va_putF (D := (dC, dI)) (ci := 0) (v := .ref q1) (ty := .array .boolean) (C := RX0) (T := TX0) (N := 13) hx hb hw in_X0 tyX0 tyX0_ok nmX0 hown hK hP hD hS 0 rfl rfl 1 (by decide) (hw _ m_1_19) (fun _ h9 => h9) rfl hin rfl (by decide +kernel) rfl rfl (Nat.le_of_ble_eq_true rfl) dX0_init_9 (fun H locs hP hD hS => ?_)
  have hP : va_P (dC, dI) vwCl [(h0, .inr (0, [.int 0, .ref q1, .null, .null, .null, .int 0, .null, .long 0, .int 0, .int 0, .null, .null, .null])), (q1, .inl (cz, 60, .inl (fun _ => 0)))] H := hP
  have hD : va_D Ar [(h0, .inr (0, [.int 0, .ref q1, .null, .null, .null, .int 0, .null, .long 0, .int 0, .int 0, .null, .null, .null])), (q1, .inl (cz, 60, .inl (fun _ => 0)))] := hD
  refine lv_aload_n hx hb dX0_init_12 rfl (lv_at hl 0 rfl) ?_
  refine lv_bipush (v := 60) hx hb dX0_init_13 (by decide) ?_
  refine x_newa (atype := .int) (ty := .int) (a0 := (60, .inl (fun _ => 0))) (N' := 60) hx hb (hw _ m_2_19) rfl hK hP hD hS hA 1 (cA := ci) rfl (x_ai 60) (by decide) (by decide) x_byi (Nat.le_of_ble_eq_true rfl) (Nat.le_of_ble_eq_true rfl) dX0_init_15 (fun q2 H hP hD hS => ?_)
  have hP : va_P (dC, dI) vwCl [(h0, .inr (0, [.int 0, .ref q1, .null, .null, .null, .int 0, .null, .long 0, .int 0, .int 0, .null, .null, .null])), (q1, .inl (cz, 60, .inl (fun _ => 0))), (q2, .inl (ci, 60, .inl (fun _ => 0)))] H := hP
  have hD : va_D Ar [(h0, .inr (0, [.int 0, .ref q1, .null, .null, .null, .int 0, .null, .long 0, .int 0, .int 0, .null, .null, .null])), (q1, .inl (cz, 60, .inl (fun _ => 0))), (q2, .inl (ci, 60, .inl (fun _ => 0)))] := hD
  refine W.widen (k := 2) (n := 120) (by decide) (by decide) ?_
  refine va_putF (D := (dC, dI)) (ci := 0) (v := .ref q2) (ty := .array .int) (C := RX0) (T := TX0) (N := 13) hx hb hw in_X0 tyX0 tyX0_ok nmX0 hown hK hP hD hS 0 rfl rfl 2 (by decide) (hw _ m_1_20) (fun _ h9 => h9) rfl hin rfl (by decide +kernel) rfl rfl (Nat.le_of_ble_eq_true rfl) dX0_init_17 (fun H locs hP hD hS => ?_)
  have hP : va_P (dC, dI) vwCl [(h0, .inr (0, [.int 0, .ref q1, .ref q2, .null, .null, .int 0, .null, .long 0, .int 0, .int 0, .null, .null, .null])), (q1, .inl (cz, 60, .inl (fun _ => 0))), (q2, .inl (ci, 60, .inl (fun _ => 0)))] H := hP
  have hD : va_D Ar [(h0, .inr (0, [.int 0, .ref q1, .ref q2, .null, .null, .int 0, .null, .long 0, .int 0, .int 0, .null, .null, .null])), (q1, .inl (cz, 60, .inl (fun _ => 0))), (q2, .inl (ci, 60, .inl (fun _ => 0)))] := hD
  refine lv_aload_n hx hb dX0_init_20 rfl (lv_at hl 0 rfl) ?_
  refine lv_bipush (v := 60) hx hb dX0_init_21 (by decide) ?_
  refine x_newa (atype := .int) (ty := .int) (a0 := (60, .inl (fun _ => 0))) (N' := 60) hx hb (hw _ m_2_19) rfl hK hP hD hS hA 1 (cA := ci) rfl (x_ai 60) (by decide) (by decide) x_byi (Nat.le_of_ble_eq_true rfl) (Nat.le_of_ble_eq_true rfl) dX0_init_23 (fun q3 H hP hD hS => ?_)
  have hP : va_P (dC, dI) vwCl [(h0, .inr (0, [.int 0, .ref q1, .ref q2, .null, .null, .int 0, .null, .long 0, .int 0, .int 0, .null, .null, .null])), (q1, .inl (cz, 60, .inl (fun _ => 0))), (q2, .inl (ci, 60, .inl (fun _ => 0))), (q3, .inl (ci, 60, .inl (fun _ => 0)))] H := hP
  have hD : va_D Ar [(h0, .inr (0, [.int 0, .ref q1, .ref q2, .null, .null, .int 0, .null, .long 0, .int 0, .int 0, .null, .null, .null])), (q1, .inl (cz, 60, .inl (fun _ => 0))), (q2, .inl (ci, 60, .inl (fun _ => 0))), (q3, .inl (ci, 60, .inl (fun _ => 0)))] := hD
  refine W.widen (k := 3) (n := 180) (by decide) (by decide) ?_
  refine va_putF (D := (dC, dI)) (ci := 0) (v := .ref q3) (ty := .array .int) (C := RX0) (T := TX0) (N := 13) hx hb hw in_X0 tyX0 tyX0_ok nmX0 hown hK hP hD hS 0 rfl rfl 3 (by decide) (hw _ m_1_21) (fun _ h9 => h9) rfl hin rfl (by decide +kernel) rfl rfl (Nat.le_of_ble_eq_true rfl) dX0_init_25 (fun H locs hP hD hS => ?_)
  have hP : va_P (dC, dI) vwCl [(h0, .inr (0, [.int 0, .ref q1, .ref q2, .ref q3, .null, .int 0, .null, .long 0, .int 0, .int 0, .null, .null, .null])), (q1, .inl (cz, 60, .inl (fun _ => 0))), (q2, .inl (ci, 60, .inl (fun _ => 0))), (q3, .inl (ci, 60, .inl (fun _ => 0)))] H := hP
  have hD : va_D Ar [(h0, .inr (0, [.int 0, .ref q1, .ref q2, .ref q3, .null, .int 0, .null, .long 0, .int 0, .int 0, .null, .null, .null])), (q1, .inl (cz, 60, .inl (fun _ => 0))), (q2, .inl (ci, 60, .inl (fun _ => 0))), (q3, .inl (ci, 60, .inl (fun _ => 0)))] := hD
  refine lv_aload_n hx hb dX0_init_28 rfl (lv_at hl 0 rfl) ?_
  refine lv_sipush (v := 720) hx hb dX0_init_29 (by decide) ?_
  refine x_newa (atype := .int) (ty := .int) (a0 := (720, .inl (fun _ => 0))) (N' := 720) hx hb (hw _ m_2_19) rfl hK hP hD hS hA 1 (cA := ci) rfl (x_ai 720) (by decide) (by decide) x_by720 (Nat.le_of_ble_eq_true rfl) (Nat.le_of_ble_eq_true rfl) dX0_init_32 (fun q4 H hP hD hS => ?_)
  have hP : va_P (dC, dI) vwCl [(h0, .inr (0, [.int 0, .ref q1, .ref q2, .ref q3, .null, .int 0, .null, .long 0, .int 0, .int 0, .null, .null, .null])), (q1, .inl (cz, 60, .inl (fun _ => 0))), (q2, .inl (ci, 60, .inl (fun _ => 0))), (q3, .inl (ci, 60, .inl (fun _ => 0))), (q4, .inl (ci, 720, .inl (fun _ => 0)))] H := hP
  have hD : va_D Ar [(h0, .inr (0, [.int 0, .ref q1, .ref q2, .ref q3, .null, .int 0, .null, .long 0, .int 0, .int 0, .null, .null, .null])), (q1, .inl (cz, 60, .inl (fun _ => 0))), (q2, .inl (ci, 60, .inl (fun _ => 0))), (q3, .inl (ci, 60, .inl (fun _ => 0))), (q4, .inl (ci, 720, .inl (fun _ => 0)))] := hD
  refine W.widen (k := 4) (n := 900) (by decide) (by decide) ?_
  refine va_putF (D := (dC, dI)) (ci := 0) (v := .ref q4) (ty := .array .int) (C := RX0) (T := TX0) (N := 13) hx hb hw in_X0 tyX0 tyX0_ok nmX0 hown hK hP hD hS 0 rfl rfl 4 (by decide) (hw _ m_1_22) (fun _ h9 => h9) rfl hin rfl (by decide +kernel) rfl rfl (Nat.le_of_ble_eq_true rfl) dX0_init_34 (fun H locs hP hD hS => ?_)
  have hP : va_P (dC, dI) vwCl [(h0, .inr (0, [.int 0, .ref q1, .ref q2, .ref q3, .ref q4, .int 0, .null, .long 0, .int 0, .int 0, .null, .null, .null])), (q1, .inl (cz, 60, .inl (fun _ => 0))), (q2, .inl (ci, 60, .inl (fun _ => 0))), (q3, .inl (ci, 60, .inl (fun _ => 0))), (q4, .inl (ci, 720, .inl (fun _ => 0)))] H := hP
  have hD : va_D Ar [(h0, .inr (0, [.int 0, .ref q1, .ref q2, .ref q3, .ref q4, .int 0, .null, .long 0, .int 0, .int 0, .null, .null, .null])), (q1, .inl (cz, 60, .inl (fun _ => 0))), (q2, .inl (ci, 60, .inl (fun _ => 0))), (q3, .inl (ci, 60, .inl (fun _ => 0))), (q4, .inl (ci, 720, .inl (fun _ => 0)))] := hD
  refine lv_aload_n hx hb dX0_init_37 rfl (lv_at hl 0 rfl) ?_
  refine lv_bipush (v := 60) hx hb dX0_init_38 (by decide) ?_
  refine x_newa (atype := .long) (ty := .long) (a0 := (60, .inr (.inl (fun _ => 0)))) (N' := 60) hx hb (hw _ m_2_20) rfl hK hP hD hS hA 2 (cA := cj) rfl (x_al 60) (by decide) (by decide) x_byl (Nat.le_of_ble_eq_true rfl) (Nat.le_of_ble_eq_true rfl) dX0_init_40 (fun q5 H hP hD hS => ?_)
  have hP : va_P (dC, dI) vwCl [(h0, .inr (0, [.int 0, .ref q1, .ref q2, .ref q3, .ref q4, .int 0, .null, .long 0, .int 0, .int 0, .null, .null, .null])), (q1, .inl (cz, 60, .inl (fun _ => 0))), (q2, .inl (ci, 60, .inl (fun _ => 0))), (q3, .inl (ci, 60, .inl (fun _ => 0))), (q4, .inl (ci, 720, .inl (fun _ => 0))), (q5, .inl (cj, 60, .inr (.inl (fun _ => 0))))] H := hP
  have hD : va_D Ar [(h0, .inr (0, [.int 0, .ref q1, .ref q2, .ref q3, .ref q4, .int 0, .null, .long 0, .int 0, .int 0, .null, .null, .null])), (q1, .inl (cz, 60, .inl (fun _ => 0))), (q2, .inl (ci, 60, .inl (fun _ => 0))), (q3, .inl (ci, 60, .inl (fun _ => 0))), (q4, .inl (ci, 720, .inl (fun _ => 0))), (q5, .inl (cj, 60, .inr (.inl (fun _ => 0))))] := hD
  refine W.widen (k := 5) (n := 960) (by decide) (by decide) ?_
  refine va_putF (D := (dC, dI)) (ci := 0) (v := .ref q5) (ty := .array .long) (C := RX0) (T := TX0) (N := 13) hx hb hw in_X0 tyX0 tyX0_ok nmX0 hown hK hP hD hS 0 rfl rfl 6 (by decide) (hw _ m_1_24) (fun _ h9 => h9) rfl hin rfl (by decide +kernel) rfl rfl (Nat.le_of_ble_eq_true rfl) dX0_init_42 (fun H locs hP hD hS => ?_)
  have hP : va_P (dC, dI) vwCl [(h0, .inr (0, [.int 0, .ref q1, .ref q2, .ref q3, .ref q4, .int 0, .ref q5, .long 0, .int 0, .int 0, .null, .null, .null])), (q1, .inl (cz, 60, .inl (fun _ => 0))), (q2, .inl (ci, 60, .inl (fun _ => 0))), (q3, .inl (ci, 60, .inl (fun _ => 0))), (q4, .inl (ci, 720, .inl (fun _ => 0))), (q5, .inl (cj, 60, .inr (.inl (fun _ => 0))))] H := hP
  have hD : va_D Ar [(h0, .inr (0, [.int 0, .ref q1, .ref q2, .ref q3, .ref q4, .int 0, .ref q5, .long 0, .int 0, .int 0, .null, .null, .null])), (q1, .inl (cz, 60, .inl (fun _ => 0))), (q2, .inl (ci, 60, .inl (fun _ => 0))), (q3, .inl (ci, 60, .inl (fun _ => 0))), (q4, .inl (ci, 720, .inl (fun _ => 0))), (q5, .inl (cj, 60, .inr (.inl (fun _ => 0))))] := hD
  refine lv_aload_n hx hb dX0_init_45 rfl (lv_at hl 0 rfl) ?_
  refine lv_bipush (v := 60) hx hb dX0_init_46 (by decide) ?_
  refine x_newa (atype := .int) (ty := .int) (a0 := (60, .inl (fun _ => 0))) (N' := 60) hx hb (hw _ m_2_19) rfl hK hP hD hS hA 1 (cA := ci) rfl (x_ai 60) (by decide) (by decide) x_byi (Nat.le_of_ble_eq_true rfl) (Nat.le_of_ble_eq_true rfl) dX0_init_48 (fun q6 H hP hD hS => ?_)
  have hP : va_P (dC, dI) vwCl [(h0, .inr (0, [.int 0, .ref q1, .ref q2, .ref q3, .ref q4, .int 0, .ref q5, .long 0, .int 0, .int 0, .null, .null, .null])), (q1, .inl (cz, 60, .inl (fun _ => 0))), (q2, .inl (ci, 60, .inl (fun _ => 0))), (q3, .inl (ci, 60, .inl (fun _ => 0))), (q4, .inl (ci, 720, .inl (fun _ => 0))), (q5, .inl (cj, 60, .inr (.inl (fun _ => 0)))), (q6, .inl (ci, 60, .inl (fun _ => 0)))] H := hP
  have hD : va_D Ar [(h0, .inr (0, [.int 0, .ref q1, .ref q2, .ref q3, .ref q4, .int 0, .ref q5, .long 0, .int 0, .int 0, .null, .null, .null])), (q1, .inl (cz, 60, .inl (fun _ => 0))), (q2, .inl (ci, 60, .inl (fun _ => 0))), (q3, .inl (ci, 60, .inl (fun _ => 0))), (q4, .inl (ci, 720, .inl (fun _ => 0))), (q5, .inl (cj, 60, .inr (.inl (fun _ => 0)))), (q6, .inl (ci, 60, .inl (fun _ => 0)))] := hD
  refine W.widen (k := 6) (n := 1020) (by decide) (by decide) ?_
  refine va_putF (D := (dC, dI)) (ci := 0) (v := .ref q6) (ty := .array .int) (C := RX0) (T := TX0) (N := 13) hx hb hw in_X0 tyX0 tyX0_ok nmX0 hown hK hP hD hS 0 rfl rfl 10 (by decide) (hw _ m_1_28) (fun _ h9 => h9) rfl hin rfl (by decide +kernel) rfl rfl (Nat.le_of_ble_eq_true rfl) dX0_init_50 (fun H locs hP hD hS => ?_)
  have hP : va_P (dC, dI) vwCl [(h0, .inr (0, [.int 0, .ref q1, .ref q2, .ref q3, .ref q4, .int 0, .ref q5, .long 0, .int 0, .int 0, .ref q6, .null, .null])), (q1, .inl (cz, 60, .inl (fun _ => 0))), (q2, .inl (ci, 60, .inl (fun _ => 0))), (q3, .inl (ci, 60, .inl (fun _ => 0))), (q4, .inl (ci, 720, .inl (fun _ => 0))), (q5, .inl (cj, 60, .inr (.inl (fun _ => 0)))), (q6, .inl (ci, 60, .inl (fun _ => 0)))] H := hP
  have hD : va_D Ar [(h0, .inr (0, [.int 0, .ref q1, .ref q2, .ref q3, .ref q4, .int 0, .ref q5, .long 0, .int 0, .int 0, .ref q6, .null, .null])), (q1, .inl (cz, 60, .inl (fun _ => 0))), (q2, .inl (ci, 60, .inl (fun _ => 0))), (q3, .inl (ci, 60, .inl (fun _ => 0))), (q4, .inl (ci, 720, .inl (fun _ => 0))), (q5, .inl (cj, 60, .inr (.inl (fun _ => 0)))), (q6, .inl (ci, 60, .inl (fun _ => 0)))] := hD
  refine lv_aload_n hx hb dX0_init_53 rfl (lv_at hl 0 rfl) ?_
  refine lv_bipush (v := 60) hx hb dX0_init_54 (by decide) ?_
  refine x_newa (atype := .int) (ty := .int) (a0 := (60, .inl (fun _ => 0))) (N' := 60) hx hb (hw _ m_2_19) rfl hK hP hD hS hA 1 (cA := ci) rfl (x_ai 60) (by decide) (by decide) x_byi (Nat.le_of_ble_eq_true rfl) (Nat.le_of_ble_eq_true rfl) dX0_init_56 (fun q7 H hP hD hS => ?_)
  have hP : va_P (dC, dI) vwCl [(h0, .inr (0, [.int 0, .ref q1, .ref q2, .ref q3, .ref q4, .int 0, .ref q5, .long 0, .int 0, .int 0, .ref q6, .null, .null])), (q1, .inl (cz, 60, .inl (fun _ => 0))), (q2, .inl (ci, 60, .inl (fun _ => 0))), (q3, .inl (ci, 60, .inl (fun _ => 0))), (q4, .inl (ci, 720, .inl (fun _ => 0))), (q5, .inl (cj, 60, .inr (.inl (fun _ => 0)))), (q6, .inl (ci, 60, .inl (fun _ => 0))), (q7, .inl (ci, 60, .inl (fun _ => 0)))] H := hP
  have hD : va_D Ar [(h0, .inr (0, [.int 0, .ref q1, .ref q2, .ref q3, .ref q4, .int 0, .ref q5, .long 0, .int 0, .int 0, .ref q6, .null, .null])), (q1, .inl (cz, 60, .inl (fun _ => 0))), (q2, .inl (ci, 60, .inl (fun _ => 0))), (q3, .inl (ci, 60, .inl (fun _ => 0))), (q4, .inl (ci, 720, .inl (fun _ => 0))), (q5, .inl (cj, 60, .inr (.inl (fun _ => 0)))), (q6, .inl (ci, 60, .inl (fun _ => 0))), (q7, .inl (ci, 60, .inl (fun _ => 0)))] := hD
  refine W.widen (k := 7) (n := 1080) (by decide) (by decide) ?_
  refine va_putF (D := (dC, dI)) (ci := 0) (v := .ref q7) (ty := .array .int) (C := RX0) (T := TX0) (N := 13) hx hb hw in_X0 tyX0 tyX0_ok nmX0 hown hK hP hD hS 0 rfl rfl 11 (by decide) (hw _ m_1_29) (fun _ h9 => h9) rfl hin rfl (by decide +kernel) rfl rfl (Nat.le_of_ble_eq_true rfl) dX0_init_58 (fun H locs hP hD hS => ?_)
  have hP : va_P (dC, dI) vwCl [(h0, .inr (0, [.int 0, .ref q1, .ref q2, .ref q3, .ref q4, .int 0, .ref q5, .long 0, .int 0, .int 0, .ref q6, .ref q7, .null])), (q1, .inl (cz, 60, .inl (fun _ => 0))), (q2, .inl (ci, 60, .inl (fun _ => 0))), (q3, .inl (ci, 60, .inl (fun _ => 0))), (q4, .inl (ci, 720, .inl (fun _ => 0))), (q5, .inl (cj, 60, .inr (.inl (fun _ => 0)))), (q6, .inl (ci, 60, .inl (fun _ => 0))), (q7, .inl (ci, 60, .inl (fun _ => 0)))] H := hP
  have hD : va_D Ar [(h0, .inr (0, [.int 0, .ref q1, .ref q2, .ref q3, .ref q4, .int 0, .ref q5, .long 0, .int 0, .int 0, .ref q6, .ref q7, .null])), (q1, .inl (cz, 60, .inl (fun _ => 0))), (q2, .inl (ci, 60, .inl (fun _ => 0))), (q3, .inl (ci, 60, .inl (fun _ => 0))), (q4, .inl (ci, 720, .inl (fun _ => 0))), (q5, .inl (cj, 60, .inr (.inl (fun _ => 0)))), (q6, .inl (ci, 60, .inl (fun _ => 0))), (q7, .inl (ci, 60, .inl (fun _ => 0)))] := hD
  refine lv_aload_n hx hb dX0_init_61 rfl (lv_at hl 0 rfl) ?_
  refine lv_bipush (v := 60) hx hb dX0_init_62 (by decide) ?_
  refine x_newa (atype := .int) (ty := .int) (a0 := (60, .inl (fun _ => 0))) (N' := 60) hx hb (hw _ m_2_19) rfl hK hP hD hS hA 1 (cA := ci) rfl (x_ai 60) (by decide) (by decide) x_byi (Nat.le_of_ble_eq_true rfl) (Nat.le_of_ble_eq_true rfl) dX0_init_64 (fun q8 H hP hD hS => ?_)
  have hP : va_P (dC, dI) vwCl [(h0, .inr (0, [.int 0, .ref q1, .ref q2, .ref q3, .ref q4, .int 0, .ref q5, .long 0, .int 0, .int 0, .ref q6, .ref q7, .null])), (q1, .inl (cz, 60, .inl (fun _ => 0))), (q2, .inl (ci, 60, .inl (fun _ => 0))), (q3, .inl (ci, 60, .inl (fun _ => 0))), (q4, .inl (ci, 720, .inl (fun _ => 0))), (q5, .inl (cj, 60, .inr (.inl (fun _ => 0)))), (q6, .inl (ci, 60, .inl (fun _ => 0))), (q7, .inl (ci, 60, .inl (fun _ => 0))), (q8, .inl (ci, 60, .inl (fun _ => 0)))] H := hP
  have hD : va_D Ar [(h0, .inr (0, [.int 0, .ref q1, .ref q2, .ref q3, .ref q4, .int 0, .ref q5, .long 0, .int 0, .int 0, .ref q6, .ref q7, .null])), (q1, .inl (cz, 60, .inl (fun _ => 0))), (q2, .inl (ci, 60, .inl (fun _ => 0))), (q3, .inl (ci, 60, .inl (fun _ => 0))), (q4, .inl (ci, 720, .inl (fun _ => 0))), (q5, .inl (cj, 60, .inr (.inl (fun _ => 0)))), (q6, .inl (ci, 60, .inl (fun _ => 0))), (q7, .inl (ci, 60, .inl (fun _ => 0))), (q8, .inl (ci, 60, .inl (fun _ => 0)))] := hD
  refine W.widen (k := 8) (n := 1140) (by decide) (by decide) ?_
  refine va_putF (D := (dC, dI)) (ci := 0) (v := .ref q8) (ty := .array .int) (C := RX0) (T := TX0) (N := 13) hx hb hw in_X0 tyX0 tyX0_ok nmX0 hown hK hP hD hS 0 rfl rfl 12 (by decide) (hw _ m_1_30) (fun _ h9 => h9) rfl hin rfl (by decide +kernel) rfl rfl (Nat.le_of_ble_eq_true rfl) dX0_init_66 (fun H locs hP hD hS => ?_)
  have hP : va_P (dC, dI) vwCl [(h0, .inr (0, [.int 0, .ref q1, .ref q2, .ref q3, .ref q4, .int 0, .ref q5, .long 0, .int 0, .int 0, .ref q6, .ref q7, .ref q8])), (q1, .inl (cz, 60, .inl (fun _ => 0))), (q2, .inl (ci, 60, .inl (fun _ => 0))), (q3, .inl (ci, 60, .inl (fun _ => 0))), (q4, .inl (ci, 720, .inl (fun _ => 0))), (q5, .inl (cj, 60, .inr (.inl (fun _ => 0)))), (q6, .inl (ci, 60, .inl (fun _ => 0))), (q7, .inl (ci, 60, .inl (fun _ => 0))), (q8, .inl (ci, 60, .inl (fun _ => 0)))] H := hP
  have hD : va_D Ar [(h0, .inr (0, [.int 0, .ref q1, .ref q2, .ref q3, .ref q4, .int 0, .ref q5, .long 0, .int 0, .int 0, .ref q6, .ref q7, .ref q8])), (q1, .inl (cz, 60, .inl (fun _ => 0))), (q2, .inl (ci, 60, .inl (fun _ => 0))), (q3, .inl (ci, 60, .inl (fun _ => 0))), (q4, .inl (ci, 720, .inl (fun _ => 0))), (q5, .inl (cj, 60, .inr (.inl (fun _ => 0)))), (q6, .inl (ci, 60, .inl (fun _ => 0))), (q7, .inl (ci, 60, .inl (fun _ => 0))), (q8, .inl (ci, 60, .inl (fun _ => 0)))] := hD
  obtain ⟨ad, had, hP9, hD9⟩ : ∃ ad : Nat → Nat, ad 0 = h0 ∧ va_P (dC, dI) vwCl (gw ad cz ci cj (0, (fun _ => 0), (fun _ => 0), (fun _ => 0), (fun _ => 0), 0, (fun _ => 0), 0, 0, 0, (fun _ => 0), (fun _ => 0), (fun _ => 0))) H ∧ va_D Ar (gw ad cz ci cj (0, (fun _ => 0), (fun _ => 0), (fun _ => 0), (fun _ => 0), 0, (fun _ => 0), 0, 0, 0, (fun _ => 0), (fun _ => 0), (fun _ => 0))) := ⟨fun k => ([h0, q1, q2, q3, q4, q5, q6, q7, q8] : List Nat).getD k 0, rfl, hP, hD⟩
  subst had
  have hP := hP9
  have hD := hD9
  refine lv_aload_n hx hb dX0_init_69 rfl (lv_at hl 0 rfl) ?_
  refine lv_iconst (v := 1) hx hb dX0_init_70 (by decide) ?_
  refine x_topi (y := nI 1) (rfl) ?_
  refine g_callv ⟨hx, hb, hml, hown, hw⟩ (c_X0_makeEvenEnds l dC dI ad cz ci cj H.size 0 (fun _ => 0) (fun _ => 0) (fun _ => 0) (fun _ => 0) 0 (fun _ => 0) 0 0 0 (fun _ => 0) (fun _ => 0) (fun _ => 0) 1 (by decide) (by decide)) (cwV 1 hw gv_X0_X0_makeEvenEnds rfl rfl rfl (by decide +kernel) ⟨Nat.le_of_ble_eq_true rfl, Nat.le_of_ble_eq_true rfl⟩) hK hP hD hS hA (ci := 0) (q0 := 0) rfl rfl rfl hl.1 rfl (Nat.le_of_ble_eq_true rfl) dX0_init_71 ⟨Nat.le_of_ble_eq_true rfl, Nat.le_of_ble_eq_true rfl⟩ (fun  un H locs hq hP hD hS => ?_)
  obtain ⟨fO2, fA2, fB2, fT2, hev, rfl⟩ := hq
  have hP : va_P (dC, dI) vwCl (gw ad cz ci cj ((nI 1), fO2, fA2, fB2, fT2, 0, (fun _ => 0), 0, 0, 0, (fun _ => 0), (fun _ => 0), (fun _ => 0))) H := hP
  have hD : va_D Ar (gw ad cz ci cj ((nI 1), fO2, fA2, fB2, fT2, 0, (fun _ => 0), 0, 0, 0, (fun _ => 0), (fun _ => 0), (fun _ => 0))) := hD
  exact W.vret hx hb hr (fun t ht hW => ⟨⟨(ad, ((nI 1), fO2, fA2, fB2, fT2, 0, (fun _ => 0), 0, 0, 0, (fun _ => 0), (fun _ => 0), (fun _ => 0))), rfl, (⟨rfl, fO2, fA2, fB2, fT2, hev, rfl⟩), (by rw [ht]; exact hP), va_K.moved hW.alike hK, hD⟩, hS.F ht⟩) hS.2.2 dX0_init_74
set_option maxHeartbeats 4000000 in
set_option maxRecDepth 100000 in
/-- the constructor -/
theorem c_X1_init (l : Launch) (dC : Nat → ClassId) (dI : Nat → Nat → Nat) (h0 : Nat) (cz ci cj : ClassId) (sz : Nat) : Met l yX1_init wX1_init ({ frames := 2, cells := 11, slots := 1320, locals := 47 }) (va_Pc [.ref h0] (g_Pre (dC, dI) vwCl (gty cz ci cj) [(h0, .inr (1, [.int 0, .null, .null, .null, .null, .null, .null, .null, .null, .null, .null, .null, .int 0]))] sz)) (va_Qv (fun (u : (Nat → Nat) × MS) => u.1 0 = h0 ∧ u.2 = (1, (fun _ => 0), upd (fun _ => 0) 0 50, upd (fun _ => 0) 0 50, (fun _ => 0), (fun _ => 0), (fun _ => 0), (fun _ => 0), (fun _ => 0), (fun _ => 0), (fun _ => 0), (fun _ => 0), 0)) (g_At (dC, dI) vwCl (gty cz ci cj) (va_A [(h0, .inr (1, [.int 0, .null, .null, .null, .null, .null, .null, .null, .null, .null, .null, .null, .int 0]))] sz) (fun (u : (Nat → Nat) × MS) => mw u.1 cz ci cj u.2)) (va_A [(h0, .inr (1, [.int 0, .null, .null, .null, .null, .null, .null, .null, .null, .null, .null, .null, .int 0]))] sz)) 11 1320 (va_A [(h0, .inr (1, [.int 0, .null, .null, .null, .null, .null, .null, .null, .null, .null, .null, .null, .int 0]))] sz) := by
  refine Met.ofW (cc := cX1_init) (maxL := 1) (ret := none) (by decide) rfl ?_
  intro p e s m args below meth c s₁ Bd hml hv
  obtain ⟨rfl, hsz, hP, hK, hD0⟩ := hv
  have hx := Bd.exec
  have hb := Bd.bytes
  have hr := Bd.returns
  have hts := atoms_spec (ws := wX1_init) Bd.pre
  have hw : ∀ w ∈ wAll, w.before _ s = true := fun w h => hts w (List.mem_cons_of_mem _ h)
  have hown : s.vm.findClass "GameGraphModel" = some m.cls := findClass_of_methodNamed Bd.named
  have hlocks := Bd.notSynchronized
  have hin : meth.name = "<init>" := (name_of_methodNamed Bd.named Bd.method).1
  subst hsz
  have hD := hD0.self (sz := s.heap.size)
  generalize hAe : va_A [(h0, .inr (1, [.int 0, .null, .null, .null, .null, .null, .null, .null, .null, .null, .null, .null, .int 0]))] s.heap.size = Ar at hD ⊢
  have hA : ∀ q : Nat, s.heap.size ≤ q → Ar q := fun q h => by rw [← hAe]; exact Or.inr h
  obtain ⟨H, hH⟩ : ∃ H : Heap, H = s.heap := ⟨_, rfl⟩
  have hS : va_S Ar s.heap H [] := by rw [hH]; exact va_S.rf
  have hP : va_P (dC, dI) vwCl [(h0, .inr (1, [.int 0, .null, .null, .null, .null, .null, .null, .null, .null, .null, .null, .null, .int 0]))] H := by rw [hH]; exact hP
  rw [← hH]
  have hl := lv_entry ([.ref h0]) (n := 1) (Nat.le_of_ble_eq_true rfl)
  rw [lg_entry_eq]
  generalize (lg_sl ([.ref h0]) ++ List.replicate (1 - (lg_sl ([.ref h0])).length) Slot.unset).toArray = ls at hl ⊢
  have hl : lv_has ls 1 [(0, .ref h0)] := hl
  refine lv_aload_n hx hb dX1_init_0 rfl (lv_at hl 0 rfl) ?_
  refine W.objInit hx hb hown (hw _ m_8_23) (hw _ m_1_10) (hw _ m_1_11) rfl (by rw [hml]; exact hl.1) rfl dX1_init_1 (Nat.le_of_ble_eq_true rfl) (Nat.le_of_ble_eq_true rfl) ?_
  refine W.eq (g2 := F0 m 4 ls []) rfl ?_
  refine lv_aload_n hx hb dX1_init_4 rfl (lv_at hl 0 rfl) ?_
  refine lv_iconst (v := 1) hx hb dX1_init_5 (by decide) ?_
  refine va_put (D := (dC, dI)) (ci := 1) (v := .int 1) (ty := .int) (C := RX1) (T := TX1) (N := 13) hx hb hw in_X1 tyX1 tyX1_ok nmX1 hown hK hP hD hS 0 rfl rfl 0 (by decide) (hw _ m_8_24) (fun _ h9 => h9) rfl (by decide +kernel) rfl rfl (Nat.le_of_ble_eq_true rfl) dX1_init_6 (fun H locs hP hD hS => ?_)
  have hP : va_P (dC, dI) vwCl [(h0, .inr (1, [.int 1, .null, .null, .null, .null, .null, .null, .null, .null, .null, .null, .null, .int 0]))] H := hP
  have hD : va_D Ar [(h0, .inr (1, [.int 1, .null, .null, .null, .null, .null, .null, .null, .null, .null, .null, .null, .int 0]))] := hD
  refine lv_aload_n hx hb dX1_init_9 rfl (lv_at hl 0 rfl) ?_
  refine lv_bipush (v := 60) hx hb dX1_init_10 (by decide) ?_
  refine x_newa (atype := .boolean) (ty := .boolean) (a0 := (60, .inl (fun _ => 0))) (N' := 60) hx hb (hw _ m_2_18) rfl hK hP hD hS hA 0 (cA := cz) rfl (x_az 60) (by decide) (by decide) x_byz (Nat.le_of_ble_eq_true rfl) (Nat.le_of_ble_eq_true rfl) dX1_init_12 (fun q1 H hP hD hS => ?_)
  have hP : va_P (dC, dI) vwCl [(h0, .inr (1, [.int 1, .null, .null, .null, .null, .null, .null, .null, .null, .null, .null, .null, .int 0])), (q1, .inl (cz, 60, .inl (fun _ => 0)))] H := hP
  have hD : va_D Ar [(h0, .inr (1, [.int 1, .null, .null, .null, .null, .null, .null, .null, .null, .null, .null, .null, .int 0])), (q1, .inl (cz, 60, .inl (fun _ => 0)))] := hD
  refine W.widen (k := 1) (n := 60) (by decide) (by decide) ?_
  refine va_putF (D := (dC, dI)) (ci := 1) (v := .ref q1) (ty := .array .boolean) (C := RX1) (T := TX1) (N := 13) hx hb hw in_X1 tyX1 tyX1_ok nmX1 hown hK hP hD hS 0 rfl rfl 1 (by decide) (hw _ m_8_25) (fun _ h9 => h9) rfl hin rfl (by decide +kernel) rfl rfl (Nat.le_of_ble_eq_true rfl) dX1_init_14 (fun H locs hP hD hS => ?_)
  have hP : va_P (dC, dI) vwCl [(h0, .inr (1, [.int 1, .ref q1, .null, .null, .null, .null, .null, .null, .null, .null, .null, .null, .int 0])), (q1, .inl (cz, 60, .inl (fun _ => 0)))] H := hP
  have hD : va_D Ar [(h0, .inr (1, [.int 1, .ref q1, .null, .null, .null, .null, .null, .null, .null, .null, .null, .null, .int 0])), (q1, .inl (cz, 60, .inl (fun _ => 0)))] := hD
  refine lv_aload_n hx hb dX1_init_17 rfl (lv_at hl 0 rfl) ?_
  refine lv_bipush (v := 60) hx hb dX1_init_18 (by decide) ?_
  refine x_newa (atype := .int) (ty := .int) (a0 := (60, .inl (fun _ => 0))) (N' := 60) hx hb (hw _ m_2_19) rfl hK hP hD hS hA 1 (cA := ci) rfl (x_ai 60) (by decide) (by decide) x_byi (Nat.le_of_ble_eq_true rfl) (Nat.le_of_ble_eq_true rfl) dX1_init_20 (fun q2 H hP hD hS => ?_)
  have hP : va_P (dC, dI) vwCl [(h0, .inr (1, [.int 1, .ref q1, .null, .null, .null, .null, .null, .null, .null, .null, .null, .null, .int 0])), (q1, .inl (cz, 60, .inl (fun _ => 0))), (q2, .inl (ci, 60, .inl (fun _ => 0)))] H := hP
  have hD : va_D Ar [(h0, .inr (1, [.int 1, .ref q1, .null, .null, .null, .null, .null, .null, .null, .null, .null, .null, .int 0])), (q1, .inl (cz, 60, .inl (fun _ => 0))), (q2, .inl (ci, 60, .inl (fun _ => 0)))] := hD
  refine W.widen (k := 2) (n := 120) (by decide) (by decide) ?_
  refine va_putF (D := (dC, dI)) (ci := 1) (v := .ref q2) (ty := .array .int) (C := RX1) (T := TX1) (N := 13) hx hb hw in_X1 tyX1 tyX1_ok nmX1 hown hK hP hD hS 0 rfl rfl 2 (by decide) (hw _ m_8_26) (fun _ h9 => h9) rfl hin rfl (by decide +kernel) rfl rfl (Nat.le_of_ble_eq_true rfl) dX1_init_22 (fun H locs hP hD hS => ?_)
  have hP : va_P (dC, dI) vwCl [(h0, .inr (1, [.int 1, .ref q1, .ref q2, .null, .null, .null, .null, .null, .null, .null, .null, .null, .int 0])), (q1, .inl (cz, 60, .inl (fun _ => 0))), (q2, .inl (ci, 60, .inl (fun _ => 0)))] H := hP
  have hD : va_D Ar [(h0, .inr (1, [.int 1, .ref q1, .ref q2, .null, .null, .null, .null, .null, .null, .null, .null, .null, .int 0])), (q1, .inl (cz, 60, .inl (fun _ => 0))), (q2, .inl (ci, 60, .inl (fun _ => 0)))] := hD
  refine lv_aload_n hx hb dX1_init_25 rfl (lv_at hl 0 rfl) ?_
  refine lv_bipush (v := 60) hx hb dX1_init_26 (by decide) ?_
  refine x_newa (atype := .int) (ty := .int) (a0 := (60, .inl (fun _ => 0))) (N' := 60) hx hb (hw _ m_2_19) rfl hK hP hD hS hA 1 (cA := ci) rfl (x_ai 60) (by decide) (by decide) x_byi (Nat.le_of_ble_eq_true rfl) (Nat.le_of_ble_eq_true rfl) dX1_init_28 (fun q3 H hP hD hS => ?_)
  have hP : va_P (dC, dI) vwCl [(h0, .inr (1, [.int 1, .ref q1, .ref q2, .null, .null, .null, .null, .null, .null, .null, .null, .null, .int 0])), (q1, .inl (cz, 60, .inl (fun _ => 0))), (q2, .inl (ci, 60, .inl (fun _ => 0))), (q3, .inl (ci, 60, .inl (fun _ => 0)))] H := hP
  have hD : va_D Ar [(h0, .inr (1, [.int 1, .ref q1, .ref q2, .null, .null, .null, .null, .null, .null, .null, .null, .null, .int 0])), (q1, .inl (cz, 60, .inl (fun _ => 0))), (q2, .inl (ci, 60, .inl (fun _ => 0))), (q3, .inl (ci, 60, .inl (fun _ => 0)))] := hD
  refine W.widen (k := 3) (n := 180) (by decide) (by decide) ?_
  refine va_putF (D := (dC, dI)) (ci := 1) (v := .ref q3) (ty := .array .int) (C := RX1) (T := TX1) (N := 13) hx hb hw in_X1 tyX1 tyX1_ok nmX1 hown hK hP hD hS 0 rfl rfl 3 (by decide) (hw _ m_8_27) (fun _ h9 => h9) rfl hin rfl (by decide +kernel) rfl rfl (Nat.le_of_ble_eq_true rfl) dX1_init_30 (fun H locs hP hD hS => ?_)
  have hP : va_P (dC, dI) vwCl [(h0, .inr (1, [.int 1, .ref q1, .ref q2, .ref q3, .null, .null, .null, .null, .null, .null, .null, .null, .int 0])), (q1, .inl (cz, 60, .inl (fun _ => 0))), (q2, .inl (ci, 60, .inl (fun _ => 0))), (q3, .inl (ci, 60, .inl (fun _ => 0)))] H := hP
  have hD : va_D Ar [(h0, .inr (1, [.int 1, .ref q1, .ref q2, .ref q3, .null, .null, .null, .null, .null, .null, .null, .null, .int 0])), (q1, .inl (cz, 60, .inl (fun _ => 0))), (q2, .inl (ci, 60, .inl (fun _ => 0))), (q3, .inl (ci, 60, .inl (fun _ => 0)))] := hD
  refine lv_aload_n hx hb dX1_init_33 rfl (lv_at hl 0 rfl) ?_
  refine lv_bipush (v := 60) hx hb dX1_init_34 (by decide) ?_
  refine x_newa (atype := .int) (ty := .int) (a0 := (60, .inl (fun _ => 0))) (N' := 60) hx hb (hw _ m_2_19) rfl hK hP hD hS hA 1 (cA := ci) rfl (x_ai 60) (by decide) (by decide) x_byi (Nat.le_of_ble_eq_true rfl) (Nat.le_of_ble_eq_true rfl) dX1_init_36 (fun q4 H hP hD hS => ?_)
  have hP : va_P (dC, dI) vwCl [(h0, .inr (1, [.int 1, .ref q1, .ref q2, .ref q3, .null, .null, .null, .null, .null, .null, .null, .null, .int 0])), (q1, .inl (cz, 60, .inl (fun _ => 0))), (q2, .inl (ci, 60, .inl (fun _ => 0))), (q3, .inl (ci, 60, .inl (fun _ => 0))), (q4, .inl (ci, 60, .inl (fun _ => 0)))] H := hP
  have hD : va_D Ar [(h0, .inr (1, [.int 1, .ref q1, .ref q2, .ref q3, .null, .null, .null, .null, .null, .null, .null, .null, .int 0])), (q1, .inl (cz, 60, .inl (fun _ => 0))), (q2, .inl (ci, 60, .inl (fun _ => 0))), (q3, .inl (ci, 60, .inl (fun _ => 0))), (q4, .inl (ci, 60, .inl (fun _ => 0)))] := hD
  refine W.widen (k := 4) (n := 240) (by decide) (by decide) ?_
  refine va_putF (D := (dC, dI)) (ci := 1) (v := .ref q4) (ty := .array .int) (C := RX1) (T := TX1) (N := 13) hx hb hw in_X1 tyX1 tyX1_ok nmX1 hown hK hP hD hS 0 rfl rfl 4 (by decide) (hw _ m_8_28) (fun _ h9 => h9) rfl hin rfl (by decide +kernel) rfl rfl (Nat.le_of_ble_eq_true rfl) dX1_init_38 (fun H locs hP hD hS => ?_)
  have hP : va_P (dC, dI) vwCl [(h0, .inr (1, [.int 1, .ref q1, .ref q2, .ref q3, .ref q4, .null, .null, .null, .null, .null, .null, .null, .int 0])), (q1, .inl (cz, 60, .inl (fun _ => 0))), (q2, .inl (ci, 60, .inl (fun _ => 0))), (q3, .inl (ci, 60, .inl (fun _ => 0))), (q4, .inl (ci, 60, .inl (fun _ => 0)))] H := hP
  have hD : va_D Ar [(h0, .inr (1, [.int 1, .ref q1, .ref q2, .ref q3, .ref q4, .null, .null, .null, .null, .null, .null, .null, .int 0])), (q1, .inl (cz, 60, .inl (fun _ => 0))), (q2, .inl (ci, 60, .inl (fun _ => 0))), (q3, .inl (ci, 60, .inl (fun _ => 0))), (q4, .inl (ci, 60, .inl (fun _ => 0)))] := hD
  refine lv_aload_n hx hb dX1_init_41 rfl (lv_at hl 0 rfl) ?_
  refine lv_bipush (v := 60) hx hb dX1_init_42 (by decide) ?_
  refine x_newa (atype := .int) (ty := .int) (a0 := (60, .inl (fun _ => 0))) (N' := 60) hx hb (hw _ m_2_19) rfl hK hP hD hS hA 1 (cA := ci) rfl (x_ai 60) (by decide) (by decide) x_byi (Nat.le_of_ble_eq_true rfl) (Nat.le_of_ble_eq_true rfl) dX1_init_44 (fun q5 H hP hD hS => ?_)
  have hP : va_P (dC, dI) vwCl [(h0, .inr (1, [.int 1, .ref q1, .ref q2, .ref q3, .ref q4, .null, .null, .null, .null, .null, .null, .null, .int 0])), (q1, .inl (cz, 60, .inl (fun _ => 0))), (q2, .inl (ci, 60, .inl (fun _ => 0))), (q3, .inl (ci, 60, .inl (fun _ => 0))), (q4, .inl (ci, 60, .inl (fun _ => 0))), (q5, .inl (ci, 60, .inl (fun _ => 0)))] H := hP
  have hD : va_D Ar [(h0, .inr (1, [.int 1, .ref q1, .ref q2, .ref q3, .ref q4, .null, .null, .null, .null, .null, .null, .null, .int 0])), (q1, .inl (cz, 60, .inl (fun _ => 0))), (q2, .inl (ci, 60, .inl (fun _ => 0))), (q3, .inl (ci, 60, .inl (fun _ => 0))), (q4, .inl (ci, 60, .inl (fun _ => 0))), (q5, .inl (ci, 60, .inl (fun _ => 0)))] := hD
  refine W.widen (k := 5) (n := 300) (by decide) (by decide) ?_
  refine va_putF (D := (dC, dI)) (ci := 1) (v := .ref q5) (ty := .array .int) (C := RX1) (T := TX1) (N := 13) hx hb hw in_X1 tyX1 tyX1_ok nmX1 hown hK hP hD hS 0 rfl rfl 5 (by decide) (hw _ m_8_29) (fun _ h9 => h9) rfl hin rfl (by decide +kernel) rfl rfl (Nat.le_of_ble_eq_true rfl) dX1_init_46 (fun H locs hP hD hS => ?_)
  have hP : va_P (dC, dI) vwCl [(h0, .inr (1, [.int 1, .ref q1, .ref q2, .ref q3, .ref q4, .ref q5, .null, .null, .null, .null, .null, .null, .int 0])), (q1, .inl (cz, 60, .inl (fun _ => 0))), (q2, .inl (ci, 60, .inl (fun _ => 0))), (q3, .inl (ci, 60, .inl (fun _ => 0))), (q4, .inl (ci, 60, .inl (fun _ => 0))), (q5, .inl (ci, 60, .inl (fun _ => 0)))] H := hP
  have hD : va_D Ar [(h0, .inr (1, [.int 1, .ref q1, .ref q2, .ref q3, .ref q4, .ref q5, .null, .null, .null, .null, .null, .null, .int 0])), (q1, .inl (cz, 60, .inl (fun _ => 0))), (q2, .inl (ci, 60, .inl (fun _ => 0))), (q3, .inl (ci, 60, .inl (fun _ => 0))), (q4, .inl (ci, 60, .inl (fun _ => 0))), (q5, .inl (ci, 60, .inl (fun _ => 0)))] := hD
  refine lv_aload_n hx hb dX1_init_49 rfl (lv_at hl 0 rfl) ?_
  refine lv_sipush (v := 720) hx hb dX1_init_50 (by decide) ?_
  refine x_newa (atype := .int) (ty := .int) (a0 := (720, .inl (fun _ => 0))) (N' := 720) hx hb (hw _ m_2_19) rfl hK hP hD hS hA 1 (cA := ci) rfl (x_ai 720) (by decide) (by decide) x_by720 (Nat.le_of_ble_eq_true rfl) (Nat.le_of_ble_eq_true rfl) dX1_init_53 (fun q6 H hP hD hS => ?_)
  have hP : va_P (dC, dI) vwCl [(h0, .inr (1, [.int 1, .ref q1, .ref q2, .ref q3, .ref q4, .ref q5, .null, .null, .null, .null, .null, .null, .int 0])), (q1, .inl (cz, 60, .inl (fun _ => 0))), (q2, .inl (ci, 60, .inl (fun _ => 0))), (q3, .inl (ci, 60, .inl (fun _ => 0))), (q4, .inl (ci, 60, .inl (fun _ => 0))), (q5, .inl (ci, 60, .inl (fun _ => 0))), (q6, .inl (ci, 720, .inl (fun _ => 0)))] H := hP
  have hD : va_D Ar [(h0, .inr (1, [.int 1, .ref q1, .ref q2, .ref q3, .ref q4, .ref q5, .null, .null, .null, .null, .null, .null, .int 0])), (q1, .inl (cz, 60, .inl (fun _ => 0))), (q2, .inl (ci, 60, .inl (fun _ => 0))), (q3, .inl (ci, 60, .inl (fun _ => 0))), (q4, .inl (ci, 60, .inl (fun _ => 0))), (q5, .inl (ci, 60, .inl (fun _ => 0))), (q6, .inl (ci, 720, .inl (fun _ => 0)))] := hD
  refine W.widen (k := 6) (n := 1020) (by decide) (by decide) ?_
  refine va_putF (D := (dC, dI)) (ci := 1) (v := .ref q6) (ty := .array .int) (C := RX1) (T := TX1) (N := 13) hx hb hw in_X1 tyX1 tyX1_ok nmX1 hown hK hP hD hS 0 rfl rfl 6 (by decide) (hw _ m_8_30) (fun _ h9 => h9) rfl hin rfl (by decide +kernel) rfl rfl (Nat.le_of_ble_eq_true rfl) dX1_init_55 (fun H locs hP hD hS => ?_)
  have hP : va_P (dC, dI) vwCl [(h0, .inr (1, [.int 1, .ref q1, .ref q2, .ref q3, .ref q4, .ref q5, .ref q6, .null, .null, .null, .null, .null, .int 0])), (q1, .inl (cz, 60, .inl (fun _ => 0))), (q2, .inl (ci, 60, .inl (fun _ => 0))), (q3, .inl (ci, 60, .inl (fun _ => 0))), (q4, .inl (ci, 60, .inl (fun _ => 0))), (q5, .inl (ci, 60, .inl (fun _ => 0))), (q6, .inl (ci, 720, .inl (fun _ => 0)))] H := hP
  have hD : va_D Ar [(h0, .inr (1, [.int 1, .ref q1, .ref q2, .ref q3, .ref q4, .ref q5, .ref q6, .null, .null, .null, .null, .null, .int 0])), (q1, .inl (cz, 60, .inl (fun _ => 0))), (q2, .inl (ci, 60, .inl (fun _ => 0))), (q3, .inl (ci, 60, .inl (fun _ => 0))), (q4, .inl (ci, 60, .inl (fun _ => 0))), (q5, .inl (ci, 60, .inl (fun _ => 0))), (q6, .inl (ci, 720, .inl (fun _ => 0)))] := hD
  refine lv_aload_n hx hb dX1_init_58 rfl (lv_at hl 0 rfl) ?_
  refine lv_bipush (v := 60) hx hb dX1_init_59 (by decide) ?_
  refine x_newa (atype := .boolean) (ty := .boolean) (a0 := (60, .inl (fun _ => 0))) (N' := 60) hx hb (hw _ m_2_18) rfl hK hP hD hS hA 0 (cA := cz) rfl (x_az 60) (by decide) (by decide) x_byz (Nat.le_of_ble_eq_true rfl) (Nat.le_of_ble_eq_true rfl) dX1_init_61 (fun q7 H hP hD hS => ?_)
  have hP : va_P (dC, dI) vwCl [(h0, .inr (1, [.int 1, .ref q1, .ref q2, .ref q3, .ref q4, .ref q5, .ref q6, .null, .null, .null, .null, .null, .int 0])), (q1, .inl (cz, 60, .inl (fun _ => 0))), (q2, .inl (ci, 60, .inl (fun _ => 0))), (q3, .inl (ci, 60, .inl (fun _ => 0))), (q4, .inl (ci, 60, .inl (fun _ => 0))), (q5, .inl (ci, 60, .inl (fun _ => 0))), (q6, .inl (ci, 720, .inl (fun _ => 0))), (q7, .inl (cz, 60, .inl (fun _ => 0)))] H := hP
  have hD : va_D Ar [(h0, .inr (1, [.int 1, .ref q1, .ref q2, .ref q3, .ref q4, .ref q5, .ref q6, .null, .null, .null, .null, .null, .int 0])), (q1, .inl (cz, 60, .inl (fun _ => 0))), (q2, .inl (ci, 60, .inl (fun _ => 0))), (q3, .inl (ci, 60, .inl (fun _ => 0))), (q4, .inl (ci, 60, .inl (fun _ => 0))), (q5, .inl (ci, 60, .inl (fun _ => 0))), (q6, .inl (ci, 720, .inl (fun _ => 0))), (q7, .inl (cz, 60, .inl (fun _ => 0)))] := hD
  refine W.widen (k := 7) (n := 1080) (by decide) (by decide) ?_
  refine va_putF (D := (dC, dI)) (ci := 1) (v := .ref q7) (ty := .array .boolean) (C := RX1) (T := TX1) (N := 13) hx hb hw in_X1 tyX1 tyX1_ok nmX1 hown hK hP hD hS 0 rfl rfl 7 (by decide) (hw _ m_8_31) (fun _ h9 => h9) rfl hin rfl (by decide +kernel) rfl rfl (Nat.le_of_ble_eq_true rfl) dX1_init_63 (fun H locs hP hD hS => ?_)
  have hP : va_P (dC, dI) vwCl [(h0, .inr (1, [.int 1, .ref q1, .ref q2, .ref q3, .ref q4, .ref q5, .ref q6, .ref q7, .null, .null, .null, .null, .int 0])), (q1, .inl (cz, 60, .inl (fun _ => 0))), (q2, .inl (ci, 60, .inl (fun _ => 0))), (q3, .inl (ci, 60, .inl (fun _ => 0))), (q4, .inl (ci, 60, .inl (fun _ => 0))), (q5, .inl (ci, 60, .inl (fun _ => 0))), (q6, .inl (ci, 720, .inl (fun _ => 0))), (q7, .inl (cz, 60, .inl (fun _ => 0)))] H := hP
  have hD : va_D Ar [(h0, .inr (1, [.int 1, .ref q1, .ref q2, .ref q3, .ref q4, .ref q5, .ref q6, .ref q7, .null, .null, .null, .null, .int 0])), (q1, .inl (cz, 60, .inl (fun _ => 0))), (q2, .inl (ci, 60, .inl (fun _ => 0))), (q3, .inl (ci, 60, .inl (fun _ => 0))), (q4, .inl (ci, 60, .inl (fun _ => 0))), (q5, .inl (ci, 60, .inl (fun _ => 0))), (q6, .inl (ci, 720, .inl (fun _ => 0))), (q7, .inl (cz, 60, .inl (fun _ => 0)))] := hD
  refine lv_aload_n hx hb dX1_init_66 rfl (lv_at hl 0 rfl) ?_
  refine lv_bipush (v := 60) hx hb dX1_init_67 (by decide) ?_
  refine x_newa (atype := .boolean) (ty := .boolean) (a0 := (60, .inl (fun _ => 0))) (N' := 60) hx hb (hw _ m_2_18) rfl hK hP hD hS hA 0 (cA := cz) rfl (x_az 60) (by decide) (by decide) x_byz (Nat.le_of_ble_eq_true rfl) (Nat.le_of_ble_eq_true rfl) dX1_init_69 (fun q8 H hP hD hS => ?_)
  have hP : va_P (dC, dI) vwCl [(h0, .inr (1, [.int 1, .ref q1, .ref q2, .ref q3, .ref q4, .ref q5, .ref q6, .ref q7, .null, .null, .null, .null, .int 0])), (q1, .inl (cz, 60, .inl (fun _ => 0))), (q2, .inl (ci, 60, .inl (fun _ => 0))), (q3, .inl (ci, 60, .inl (fun _ => 0))), (q4, .inl (ci, 60, .inl (fun _ => 0))), (q5, .inl (ci, 60, .inl (fun _ => 0))), (q6, .inl (ci, 720, .inl (fun _ => 0))), (q7, .inl (cz, 60, .inl (fun _ => 0))), (q8, .inl (cz, 60, .inl (fun _ => 0)))] H := hP
  have hD : va_D Ar [(h0, .inr (1, [.int 1, .ref q1, .ref q2, .ref q3, .ref q4, .ref q5, .ref q6, .ref q7, .null, .null, .null, .null, .int 0])), (q1, .inl (cz, 60, .inl (fun _ => 0))), (q2, .inl (ci, 60, .inl (fun _ => 0))), (q3, .inl (ci, 60, .inl (fun _ => 0))), (q4, .inl (ci, 60, .inl (fun _ => 0))), (q5, .inl (ci, 60, .inl (fun _ => 0))), (q6, .inl (ci, 720, .inl (fun _ => 0))), (q7, .inl (cz, 60, .inl (fun _ => 0))), (q8, .inl (cz, 60, .inl (fun _ => 0)))] := hD
  refine W.widen (k := 8) (n := 1140) (by decide) (by decide) ?_
  refine va_putF (D := (dC, dI)) (ci := 1) (v := .ref q8) (ty := .array .boolean) (C := RX1) (T := TX1) (N := 13) hx hb hw in_X1 tyX1 tyX1_ok nmX1 hown hK hP hD hS 0 rfl rfl 8 (by decide) (hw _ m_8_32) (fun _ h9 => h9) rfl hin rfl (by decide +kernel) rfl rfl (Nat.le_of_ble_eq_true rfl) dX1_init_71 (fun H locs hP hD hS => ?_)
  have hP : va_P (dC, dI) vwCl [(h0, .inr (1, [.int 1, .ref q1, .ref q2, .ref q3, .ref q4, .ref q5, .ref q6, .ref q7, .ref q8, .null, .null, .null, .int 0])), (q1, .inl (cz, 60, .inl (fun _ => 0))), (q2, .inl (ci, 60, .inl (fun _ => 0))), (q3, .inl (ci, 60, .inl (fun _ => 0))), (q4, .inl (ci, 60, .inl (fun _ => 0))), (q5, .inl (ci, 60, .inl (fun _ => 0))), (q6, .inl (ci, 720, .inl (fun _ => 0))), (q7, .inl (cz, 60, .inl (fun _ => 0))), (q8, .inl (cz, 60, .inl (fun _ => 0)))] H := hP
  have hD : va_D Ar [(h0, .inr (1, [.int 1, .ref q1, .ref q2, .ref q3, .ref q4, .ref q5, .ref q6, .ref q7, .ref q8, .null, .null, .null, .int 0])), (q1, .inl (cz, 60, .inl (fun _ => 0))), (q2, .inl (ci, 60, .inl (fun _ => 0))), (q3, .inl (ci, 60, .inl (fun _ => 0))), (q4, .inl (ci, 60, .inl (fun _ => 0))), (q5, .inl (ci, 60, .inl (fun _ => 0))), (q6, .inl (ci, 720, .inl (fun _ => 0))), (q7, .inl (cz, 60, .inl (fun _ => 0))), (q8, .inl (cz, 60, .inl (fun _ => 0)))] := hD
  refine lv_aload_n hx hb dX1_init_74 rfl (lv_at hl 0 rfl) ?_
  refine lv_bipush (v := 60) hx hb dX1_init_75 (by decide) ?_
  refine x_newa (atype := .boolean) (ty := .boolean) (a0 := (60, .inl (fun _ => 0))) (N' := 60) hx hb (hw _ m_2_18) rfl hK hP hD hS hA 0 (cA := cz) rfl (x_az 60) (by decide) (by decide) x_byz (Nat.le_of_ble_eq_true rfl) (Nat.le_of_ble_eq_true rfl) dX1_init_77 (fun q9 H hP hD hS => ?_)
  have hP : va_P (dC, dI) vwCl [(h0, .inr (1, [.int 1, .ref q1, .ref q2, .ref q3, .ref q4, .ref q5, .ref q6, .ref q7, .ref q8, .null, .null, .null, .int 0])), (q1, .inl (cz, 60, .inl (fun _ => 0))), (q2, .inl (ci, 60, .inl (fun _ => 0))), (q3, .inl (ci, 60, .inl (fun _ => 0))), (q4, .inl (ci, 60, .inl (fun _ => 0))), (q5, .inl (ci, 60, .inl (fun _ => 0))), (q6, .inl (ci, 720, .inl (fun _ => 0))), (q7, .inl (cz, 60, .inl (fun _ => 0))), (q8, .inl (cz, 60, .inl (fun _ => 0))), (q9, .inl (cz, 60, .inl (fun _ => 0)))] H := hP
  have hD : va_D Ar [(h0, .inr (1, [.int 1, .ref q1, .ref q2, .ref q3, .ref q4, .ref q5, .ref q6, .ref q7, .ref q8, .null, .null, .null, .int 0])), (q1, .inl (cz, 60, .inl (fun _ => 0))), (q2, .inl (ci, 60, .inl (fun _ => 0))), (q3, .inl (ci, 60, .inl (fun _ => 0))), (q4, .inl (ci, 60, .inl (fun _ => 0))), (q5, .inl (ci, 60, .inl (fun _ => 0))), (q6, .inl (ci, 720, .inl (fun _ => 0))), (q7, .inl (cz, 60, .inl (fun _ => 0))), (q8, .inl (cz, 60, .inl (fun _ => 0))), (q9, .inl (cz, 60, .inl (fun _ => 0)))] := hD
  refine W.widen (k := 9) (n := 1200) (by decide) (by decide) ?_
  refine va_putF (D := (dC, dI)) (ci := 1) (v := .ref q9) (ty := .array .boolean) (C := RX1) (T := TX1) (N := 13) hx hb hw in_X1 tyX1 tyX1_ok nmX1 hown hK hP hD hS 0 rfl rfl 9 (by decide) (hw _ m_8_33) (fun _ h9 => h9) rfl hin rfl (by decide +kernel) rfl rfl (Nat.le_of_ble_eq_true rfl) dX1_init_79 (fun H locs hP hD hS => ?_)
  have hP : va_P (dC, dI) vwCl [(h0, .inr (1, [.int 1, .ref q1, .ref q2, .ref q3, .ref q4, .ref q5, .ref q6, .ref q7, .ref q8, .ref q9, .null, .null, .int 0])), (q1, .inl (cz, 60, .inl (fun _ => 0))), (q2, .inl (ci, 60, .inl (fun _ => 0))), (q3, .inl (ci, 60, .inl (fun _ => 0))), (q4, .inl (ci, 60, .inl (fun _ => 0))), (q5, .inl (ci, 60, .inl (fun _ => 0))), (q6, .inl (ci, 720, .inl (fun _ => 0))), (q7, .inl (cz, 60, .inl (fun _ => 0))), (q8, .inl (cz, 60, .inl (fun _ => 0))), (q9, .inl (cz, 60, .inl (fun _ => 0)))] H := hP
  have hD : va_D Ar [(h0, .inr (1, [.int 1, .ref q1, .ref q2, .ref q3, .ref q4, .ref q5, .ref q6, .ref q7, .ref q8, .ref q9, .null, .null, .int 0])), (q1, .inl (cz, 60, .inl (fun _ => 0))), (q2, .inl (ci, 60, .inl (fun _ => 0))), (q3, .inl (ci, 60, .inl (fun _ => 0))), (q4, .inl (ci, 60, .inl (fun _ => 0))), (q5, .inl (ci, 60, .inl (fun _ => 0))), (q6, .inl (ci, 720, .inl (fun _ => 0))), (q7, .inl (cz, 60, .inl (fun _ => 0))), (q8, .inl (cz, 60, .inl (fun _ => 0))), (q9, .inl (cz, 60, .inl (fun _ => 0)))] := hD
  refine lv_aload_n hx hb dX1_init_82 rfl (lv_at hl 0 rfl) ?_
  refine lv_bipush (v := 60) hx hb dX1_init_83 (by decide) ?_
  refine x_newa (atype := .int) (ty := .int) (a0 := (60, .inl (fun _ => 0))) (N' := 60) hx hb (hw _ m_2_19) rfl hK hP hD hS hA 1 (cA := ci) rfl (x_ai 60) (by decide) (by decide) x_byi (Nat.le_of_ble_eq_true rfl) (Nat.le_of_ble_eq_true rfl) dX1_init_85 (fun q10 H hP hD hS => ?_)
  have hP : va_P (dC, dI) vwCl [(h0, .inr (1, [.int 1, .ref q1, .ref q2, .ref q3, .ref q4, .ref q5, .ref q6, .ref q7, .ref q8, .ref q9, .null, .null, .int 0])), (q1, .inl (cz, 60, .inl (fun _ => 0))), (q2, .inl (ci, 60, .inl (fun _ => 0))), (q3, .inl (ci, 60, .inl (fun _ => 0))), (q4, .inl (ci, 60, .inl (fun _ => 0))), (q5, .inl (ci, 60, .inl (fun _ => 0))), (q6, .inl (ci, 720, .inl (fun _ => 0))), (q7, .inl (cz, 60, .inl (fun _ => 0))), (q8, .inl (cz, 60, .inl (fun _ => 0))), (q9, .inl (cz, 60, .inl (fun _ => 0))), (q10, .inl (ci, 60, .inl (fun _ => 0)))] H := hP
  have hD : va_D Ar [(h0, .inr (1, [.int 1, .ref q1, .ref q2, .ref q3, .ref q4, .ref q5, .ref q6, .ref q7, .ref q8, .ref q9, .null, .null, .int 0])), (q1, .inl (cz, 60, .inl (fun _ => 0))), (q2, .inl (ci, 60, .inl (fun _ => 0))), (q3, .inl (ci, 60, .inl (fun _ => 0))), (q4, .inl (ci, 60, .inl (fun _ => 0))), (q5, .inl (ci, 60, .inl (fun _ => 0))), (q6, .inl (ci, 720, .inl (fun _ => 0))), (q7, .inl (cz, 60, .inl (fun _ => 0))), (q8, .inl (cz, 60, .inl (fun _ => 0))), (q9, .inl (cz, 60, .inl (fun _ => 0))), (q10, .inl (ci, 60, .inl (fun _ => 0)))] := hD
  refine W.widen (k := 10) (n := 1260) (by decide) (by decide) ?_
  refine va_putF (D := (dC, dI)) (ci := 1) (v := .ref q10) (ty := .array .int) (C := RX1) (T := TX1) (N := 13) hx hb hw in_X1 tyX1 tyX1_ok nmX1 hown hK hP hD hS 0 rfl rfl 10 (by decide) (hw _ m_8_34) (fun _ h9 => h9) rfl hin rfl (by decide +kernel) rfl rfl (Nat.le_of_ble_eq_true rfl) dX1_init_87 (fun H locs hP hD hS => ?_)
  have hP : va_P (dC, dI) vwCl [(h0, .inr (1, [.int 1, .ref q1, .ref q2, .ref q3, .ref q4, .ref q5, .ref q6, .ref q7, .ref q8, .ref q9, .ref q10, .null, .int 0])), (q1, .inl (cz, 60, .inl (fun _ => 0))), (q2, .inl (ci, 60, .inl (fun _ => 0))), (q3, .inl (ci, 60, .inl (fun _ => 0))), (q4, .inl (ci, 60, .inl (fun _ => 0))), (q5, .inl (ci, 60, .inl (fun _ => 0))), (q6, .inl (ci, 720, .inl (fun _ => 0))), (q7, .inl (cz, 60, .inl (fun _ => 0))), (q8, .inl (cz, 60, .inl (fun _ => 0))), (q9, .inl (cz, 60, .inl (fun _ => 0))), (q10, .inl (ci, 60, .inl (fun _ => 0)))] H := hP
  have hD : va_D Ar [(h0, .inr (1, [.int 1, .ref q1, .ref q2, .ref q3, .ref q4, .ref q5, .ref q6, .ref q7, .ref q8, .ref q9, .ref q10, .null, .int 0])), (q1, .inl (cz, 60, .inl (fun _ => 0))), (q2, .inl (ci, 60, .inl (fun _ => 0))), (q3, .inl (ci, 60, .inl (fun _ => 0))), (q4, .inl (ci, 60, .inl (fun _ => 0))), (q5, .inl (ci, 60, .inl (fun _ => 0))), (q6, .inl (ci, 720, .inl (fun _ => 0))), (q7, .inl (cz, 60, .inl (fun _ => 0))), (q8, .inl (cz, 60, .inl (fun _ => 0))), (q9, .inl (cz, 60, .inl (fun _ => 0))), (q10, .inl (ci, 60, .inl (fun _ => 0)))] := hD
  refine lv_aload_n hx hb dX1_init_90 rfl (lv_at hl 0 rfl) ?_
  refine lv_bipush (v := 60) hx hb dX1_init_91 (by decide) ?_
  refine x_newa (atype := .int) (ty := .int) (a0 := (60, .inl (fun _ => 0))) (N' := 60) hx hb (hw _ m_2_19) rfl hK hP hD hS hA 1 (cA := ci) rfl (x_ai 60) (by decide) (by decide) x_byi (Nat.le_of_ble_eq_true rfl) (Nat.le_of_ble_eq_true rfl) dX1_init_93 (fun q11 H hP hD hS => ?_)
  have hP : va_P (dC, dI) vwCl [(h0, .inr (1, [.int 1, .ref q1, .ref q2, .ref q3, .ref q4, .ref q5, .ref q6, .ref q7, .ref q8, .ref q9, .ref q10, .null, .int 0])), (q1, .inl (cz, 60, .inl (fun _ => 0))), (q2, .inl (ci, 60, .inl (fun _ => 0))), (q3, .inl (ci, 60, .inl (fun _ => 0))), (q4, .inl (ci, 60, .inl (fun _ => 0))), (q5, .inl (ci, 60, .inl (fun _ => 0))), (q6, .inl (ci, 720, .inl (fun _ => 0))), (q7, .inl (cz, 60, .inl (fun _ => 0))), (q8, .inl (cz, 60, .inl (fun _ => 0))), (q9, .inl (cz, 60, .inl (fun _ => 0))), (q10, .inl (ci, 60, .inl (fun _ => 0))), (q11, .inl (ci, 60, .inl (fun _ => 0)))] H := hP
  have hD : va_D Ar [(h0, .inr (1, [.int 1, .ref q1, .ref q2, .ref q3, .ref q4, .ref q5, .ref q6, .ref q7, .ref q8, .ref q9, .ref q10, .null, .int 0])), (q1, .inl (cz, 60, .inl (fun _ => 0))), (q2, .inl (ci, 60, .inl (fun _ => 0))), (q3, .inl (ci, 60, .inl (fun _ => 0))), (q4, .inl (ci, 60, .inl (fun _ => 0))), (q5, .inl (ci, 60, .inl (fun _ => 0))), (q6, .inl (ci, 720, .inl (fun _ => 0))), (q7, .inl (cz, 60, .inl (fun _ => 0))), (q8, .inl (cz, 60, .inl (fun _ => 0))), (q9, .inl (cz, 60, .inl (fun _ => 0))), (q10, .inl (ci, 60, .inl (fun _ => 0))), (q11, .inl (ci, 60, .inl (fun _ => 0)))] := hD
  refine W.widen (k := 11) (n := 1320) (by decide) (by decide) ?_
  refine va_putF (D := (dC, dI)) (ci := 1) (v := .ref q11) (ty := .array .int) (C := RX1) (T := TX1) (N := 13) hx hb hw in_X1 tyX1 tyX1_ok nmX1 hown hK hP hD hS 0 rfl rfl 11 (by decide) (hw _ m_8_35) (fun _ h9 => h9) rfl hin rfl (by decide +kernel) rfl rfl (Nat.le_of_ble_eq_true rfl) dX1_init_95 (fun H locs hP hD hS => ?_)
  have hP : va_P (dC, dI) vwCl [(h0, .inr (1, [.int 1, .ref q1, .ref q2, .ref q3, .ref q4, .ref q5, .ref q6, .ref q7, .ref q8, .ref q9, .ref q10, .ref q11, .int 0])), (q1, .inl (cz, 60, .inl (fun _ => 0))), (q2, .inl (ci, 60, .inl (fun _ => 0))), (q3, .inl (ci, 60, .inl (fun _ => 0))), (q4, .inl (ci, 60, .inl (fun _ => 0))), (q5, .inl (ci, 60, .inl (fun _ => 0))), (q6, .inl (ci, 720, .inl (fun _ => 0))), (q7, .inl (cz, 60, .inl (fun _ => 0))), (q8, .inl (cz, 60, .inl (fun _ => 0))), (q9, .inl (cz, 60, .inl (fun _ => 0))), (q10, .inl (ci, 60, .inl (fun _ => 0))), (q11, .inl (ci, 60, .inl (fun _ => 0)))] H := hP
  have hD : va_D Ar [(h0, .inr (1, [.int 1, .ref q1, .ref q2, .ref q3, .ref q4, .ref q5, .ref q6, .ref q7, .ref q8, .ref q9, .ref q10, .ref q11, .int 0])), (q1, .inl (cz, 60, .inl (fun _ => 0))), (q2, .inl (ci, 60, .inl (fun _ => 0))), (q3, .inl (ci, 60, .inl (fun _ => 0))), (q4, .inl (ci, 60, .inl (fun _ => 0))), (q5, .inl (ci, 60, .inl (fun _ => 0))), (q6, .inl (ci, 720, .inl (fun _ => 0))), (q7, .inl (cz, 60, .inl (fun _ => 0))), (q8, .inl (cz, 60, .inl (fun _ => 0))), (q9, .inl (cz, 60, .inl (fun _ => 0))), (q10, .inl (ci, 60, .inl (fun _ => 0))), (q11, .inl (ci, 60, .inl (fun _ => 0)))] := hD
  obtain ⟨ad, had, hP9, hD9⟩ : ∃ ad : Nat → Nat, ad 0 = h0 ∧ va_P (dC, dI) vwCl (mw ad cz ci cj (1, (fun _ => 0), (fun _ => 0), (fun _ => 0), (fun _ => 0), (fun _ => 0), (fun _ => 0), (fun _ => 0), (fun _ => 0), (fun _ => 0), (fun _ => 0), (fun _ => 0), 0)) H ∧ va_D Ar (mw ad cz ci cj (1, (fun _ => 0), (fun _ => 0), (fun _ => 0), (fun _ => 0), (fun _ => 0), (fun _ => 0), (fun _ => 0), (fun _ => 0), (fun _ => 0), (fun _ => 0), (fun _ => 0), 0)) := ⟨fun k => ([h0, q1, q2, q3, q4, q5, q6, q7, q8, q9, q10, q11] : List Nat).getD k 0, rfl, hP, hD⟩
  subst had
  have hP := hP9
  have hD := hD9
  refine lv_aload_n hx hb dX1_init_98 rfl (lv_at hl 0 rfl) ?_
  refine va_get (D := (dC, dI)) (ci := 1) (v := .ref (ad 2)) (C := RX1) (T := TX1) (N := 13) hx hb hw in_X1 hown hK hP 0 rfl rfl 2 (by decide) (hw _ m_8_26) (fun _ h9 => h9) rfl dX1_init_99 ?_
  refine lv_iconst (v := 0) hx hb dX1_init_102 (by decide) ?_
  refine x_topi (y := nI 0) (rfl) ?_
  refine lv_bipush (v := 50) hx hb dX1_init_103 (by decide) ?_
  refine va_iast hx hb hK hP hD hS 2 1 rfl rfl (vp_in_nI (by omega) (by decide)) dX1_init_105 (fun H locs hP hD hS => ?_)
  rw [nI_clamp (by omega)] at hP hD
  have hP : va_P (dC, dI) vwCl (mw ad cz ci cj (1, (fun _ => 0), (upd (fun _ => 0) 0 50), (fun _ => 0), (fun _ => 0), (fun _ => 0), (fun _ => 0), (fun _ => 0), (fun _ => 0), (fun _ => 0), (fun _ => 0), (fun _ => 0), 0)) H := hP
  have hD : va_D Ar (mw ad cz ci cj (1, (fun _ => 0), (upd (fun _ => 0) 0 50), (fun _ => 0), (fun _ => 0), (fun _ => 0), (fun _ => 0), (fun _ => 0), (fun _ => 0), (fun _ => 0), (fun _ => 0), (fun _ => 0), 0)) := hD
  refine lv_aload_n hx hb dX1_init_106 rfl (lv_at hl 0 rfl) ?_
  refine va_get (D := (dC, dI)) (ci := 1) (v := .ref (ad 3)) (C := RX1) (T := TX1) (N := 13) hx hb hw in_X1 hown hK hP 0 rfl rfl 3 (by decide) (hw _ m_8_27) (fun _ h9 => h9) rfl dX1_init_107 ?_
  refine lv_iconst (v := 0) hx hb dX1_init_110 (by decide) ?_
  refine x_topi (y := nI 0) (rfl) ?_
  refine lv_bipush (v := 50) hx hb dX1_init_111 (by decide) ?_
  refine va_iast hx hb hK hP hD hS 3 1 rfl rfl (vp_in_nI (by omega) (by decide)) dX1_init_113 (fun H locs hP hD hS => ?_)
  rw [nI_clamp (by omega)] at hP hD
  have hP : va_P (dC, dI) vwCl (mw ad cz ci cj (1, (fun _ => 0), (upd (fun _ => 0) 0 50), (upd (fun _ => 0) 0 50), (fun _ => 0), (fun _ => 0), (fun _ => 0), (fun _ => 0), (fun _ => 0), (fun _ => 0), (fun _ => 0), (fun _ => 0), 0)) H := hP
  have hD : va_D Ar (mw ad cz ci cj (1, (fun _ => 0), (upd (fun _ => 0) 0 50), (upd (fun _ => 0) 0 50), (fun _ => 0), (fun _ => 0), (fun _ => 0), (fun _ => 0), (fun _ => 0), (fun _ => 0), (fun _ => 0), (fun _ => 0), 0)) := hD
  exact W.vret hx hb hr (fun t ht hW => ⟨⟨(ad, (1, (fun _ => 0), (upd (fun _ => 0) 0 50), (upd (fun _ => 0) 0 50), (fun _ => 0), (fun _ => 0), (fun _ => 0), (fun _ => 0), (fun _ => 0), (fun _ => 0), (fun _ => 0), (fun _ => 0), 0)), rfl, (⟨rfl, rfl⟩), (by rw [ht]; exact hP), va_K.moved hW.alike hK, hD⟩, hS.F ht⟩) hS.2.2 dX1_init_114
