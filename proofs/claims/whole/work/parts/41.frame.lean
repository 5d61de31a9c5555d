/-! Calls where the callee gets a part of the world: the rest stays as it is. Static methods with a table. -/
section FR
variable {A : Nat → Prop} {D : va_G} {cl : List vw_C} {w r w1 : va_W} {H H1 : Heap}
theorem x_el {i : Nat} {q : Nat × va_E} (h : w[i]? = some q) : (w ++ r)[i]? = some q := by
  rw [List.getElem?_append_left (List.getElem?_eq_some_iff.mp h).1]; exact h
theorem x_er {i : Nat} {q : Nat × va_E} (h : r[i]? = some q) : (w ++ r)[w.length + i]? = some q := by
  rw [List.getElem?_append_right (by omega), Nat.add_sub_cancel_left]; exact h
theorem x_Dl (h : va_D A (w ++ r)) : va_D A w := ⟨fun i j p q hp hq e => h.1 i j p q (x_el hp) (x_el hq) e, fun k q hq => h.2 k q (x_el hq)⟩
theorem x_Dr (h : va_D A (w ++ r)) : va_D A r := ⟨fun i j p q hp hq e => by have := h.1 _ _ p q (x_er (w := w) hp) (x_er (w := w) hq) e; omega, fun k q hq => h.2 _ q (x_er (w := w) hq)⟩
theorem x_Dx (h : va_D A (w ++ r)) (i j : Nat) (p q : Nat × va_E) (hp : w[i]? = some p) (hq : r[j]? = some q) : p.1 ≠ q.1 := fun e => by
  have h1 := h.1 _ _ p q (x_el hp) (x_er (w := w) hq) e
  have h2 := (List.getElem?_eq_some_iff.mp hp).1
  omega
theorem x_Ds (h : va_D A (w ++ r)) : va_D A (r ++ w) := va_D.app (x_Dr h) (x_Dl h) (fun i j p q hp hq e => x_Dx h j i q p hq hp e.symm)
theorem x_Pl (h : va_P D cl (w ++ r) H) : va_P D cl w H := fun k q hk => h k q (x_el hk)
theorem x_Pr (h : va_P D cl (w ++ r) H) : va_P D cl r H := fun k q hk => h _ q (x_er (w := w) hk)
theorem x_fr (hPr : va_P D cl r H) (hD : va_D A (w ++ r)) (hk : ∀ q : Nat, q < H.size → ¬ va_A w H.size q → H1[q]? = H[q]?) (hF : ∀ q, va_A w H.size q → A q) (hD1 : va_D (va_A w H.size) w1) : va_P D cl r H1 ∧ va_D A (w1 ++ r) := by
  have no : ∀ (j : Nat) (q : Nat × va_E), r[j]? = some q → ¬ va_A w H.size q.1 := by
    intro j q hq h
    rcases h with ⟨k, e, h⟩ | h
    · exact x_Dx hD k j (q.1, e) q h hq rfl
    · have := (hPr j q hq).lt; omega
  refine ⟨hPr.kept (fun k q hq => hk q.1 (hPr k q hq).lt (no k q hq)), va_D.app (hD1.weaken (fun _ q _ h => hF q.1 h)) (x_Dr hD) (fun i j p q hp hq e => no j q hq ?_)⟩
  rw [← e]
  exact hD1.2 i p hp
end FR
def x_N (U : State) : Prop := va_Nc "java/lang/IllegalArgumentException" "java/lang/IndexOutOfBoundsException" U ∧ va_Nc "java/lang/IndexOutOfBoundsException" "java/lang/IllegalStateException" U
theorem x_N.moved {u U : State} (hvm : u.vm.Alike U.vm) (h : x_N u) : x_N U := ⟨h.1.moved hvm, h.2.moved hvm⟩
abbrev y_Pre (D : va_G) (cl : List vw_C) (tys : List (ClassId × FieldType)) (w : va_W) (sz : Nat) : State → Prop := fun U => x_Pre D cl tys w sz U ∧ x_N U
theorem y_blind {av : List Value} {D : va_G} {cl : List vw_C} {tys : List (ClassId × FieldType)} {w : va_W} {sz : Nat} : FrameBlind (va_Pc av (y_Pre D cl tys w sz)) := fun a U g mk q => by
  obtain ⟨q0, q1, hN⟩ := q
  obtain ⟨q2, q3⟩ := x_blind a U g mk ⟨q0, q1⟩
  exact ⟨q2, q3, x_N.moved (u := U) (U := U.calling g mk a) (Vm.Alike.refl U.vm) hN⟩
section GR
variable {p : Program} {l : Launch} {e : Env} {R : Room} {s : State} {m : MethodId} {args : Array Value} {below : List Frame} {meth : Method} {c : Code} {H : Heap} {locs : List Loc} {cells slots : Nat} {Q : State → Prop}
variable {cc bytes : ByteArray} {pc nL n index maxL mc ms : Nat} {ret : Option FieldType} {ls : Array Slot} {rest st0 As : List Value} {A : Nat → Prop} {D : va_G} {cl : List vw_C} {tys : List (ClassId × FieldType)} {S : Type} {wu : S → va_W} {w wr : va_W} {ws Ts : List Cond} {rm : Room} {y : MethodName} {own C : String} {T : u_T} {b ci q0 N : Nat} {fs : List Value} {H0 : Heap}
/-- a call that may throw, with a rest of the world -/
theorem g_callxiR {post : Int32 → S → Prop} {thr : String → S → Prop} (S0 : CallFix p m c cc nL s args Ts own) (hM : vx_Met l y ws rm (va_Pc (.ref b :: As) (x_Pre D cl tys w H.size)) (va_Qi post (g_At D cl tys (va_A w H.size) wu) (va_A w H.size)) (x_XC D cl tys (va_A w H.size) wu thr) mc ms (va_A w H.size))
    (cw : CallW R s args own C index y bytes maxL ret ws rm mc ms n) (hK : va_K D cl tys s) (hP : va_P D cl w H) (hPr : va_P D cl wr H) (hD : va_D A (w ++ wr)) (hS : va_S A s.heap H locs) (hA : ∀ q, s.heap.size ≤ q → A q) (hE : x_En A s s.heap) (hc : cl[ci]? = some (C, T, N)) (he : w[q0]? = some (b, .inr (ci, fs)))
    (hn : As.length = n) (hsize : ls.size = nL) (hstack : st0 = As.reverse ++ .ref b :: rest) (hW : (rest.map fun v => v.category).sum ≤ 8) (hdg : decode cc pc = .ok (.invokevirtual index, 3)) (hf : cells + mc ≤ R.cells ∧ slots + ms ≤ R.slots)
    (kr : ∀ (r : Int32) (u : S) (H1 : Heap) (locs1 : List Loc), post r u → va_P D cl (wu u) H1 → va_P D cl wr H1 → va_D A (wu u ++ wr) → va_S A s.heap H1 locs1 → W p l e R s m args below meth c H1 locs1 (cells + mc) (slots + ms) Q (F0 m (pc + 3) ls (.int r :: rest)))
    (kt : ∀ (E : String) (ce : Cell) (q9 : Addr) (u : S) (H1 : Heap) (locs1 : List Loc), thr E u → va_P D cl (wu u) H1 → va_P D cl wr H1 → va_D A (wu u ++ wr) → va_S A s.heap H1 locs1 → H1[q9]? = some ce → ce.vm = .none → s.vm.findClass E = some ce.cls → vx_W p l e R s m args below meth c H1 locs1 (cells + mc) (slots + ms) Q (F0 m pc ls rest) q9) : W p l e R s m args below meth c H locs cells slots Q (F0 m pc ls st0) := by
  have hF := g_free (x_Dl hD) hS hA
  refine vx_calli (vx_runV S0 hM cw ⟨x_blind, va_recv hK hP hc he, fun U hU hW => ⟨rfl, by rw [hU], by rw [hU]; exact hP, va_K.moved hW.alike hK, (x_Dl hD).weaken (fun _ _ _ _ => trivial), by rw [hU]; exact hE.next hS hW hF⟩⟩ rfl hn hsize hstack (lv_room hW) hdg hf) hS (fun q _ h => hF q h) hF (fun q _ h => hF q h)
    (fun E ce q9 u t H1 locs1 ht hvm _ hB hz hk hS hce hcv hcl => ?_) (fun r u t H1 locs1 ht hvm hw hB hz hk hS => ?_)
  · obtain ⟨hth, hP1, hK1, hD1⟩ := hB
    rw [ht] at hP1
    obtain ⟨h1, h2⟩ := x_fr hPr hD hk hF hD1
    exact kt E ce q9 u H1 locs1 hth hP1 h1 h2 hS hce hcv hcl
  · obtain ⟨hP1, hK1, hD1⟩ := hB
    rw [ht] at hP1
    obtain ⟨h1, h2⟩ := x_fr hPr hD hk hF hD1
    exact kr r u H1 locs1 hw hP1 h1 h2 hS
theorem g_calliR {post : Int32 → S → Prop} (S0 : CallFix p m c cc nL s args Ts own) (hM : Met l y ws rm (va_Pc (.ref b :: As) (g_Pre D cl tys w H.size)) (va_Qi post (g_At D cl tys (va_A w H.size) wu) (va_A w H.size)) mc ms (va_A w H.size))
    (cw : CallW R s args own C index y bytes maxL ret ws rm mc ms n) (hK : va_K D cl tys s) (hP : va_P D cl w H) (hPr : va_P D cl wr H) (hD : va_D A (w ++ wr)) (hS : va_S A H0 H locs) (hA : ∀ q, H0.size ≤ q → A q) (hc : cl[ci]? = some (C, T, N)) (he : w[q0]? = some (b, .inr (ci, fs)))
    (hn : As.length = n) (hsize : ls.size = nL) (hstack : st0 = As.reverse ++ .ref b :: rest) (hW : (rest.map fun v => v.category).sum ≤ 8) (hdg : decode cc pc = .ok (.invokevirtual index, 3)) (hf : cells + mc ≤ R.cells ∧ slots + ms ≤ R.slots)
    (kk : ∀ (r : Int32) (u : S) (H1 : Heap) (locs1 : List Loc), post r u → va_P D cl (wu u) H1 → va_P D cl wr H1 → va_D A (wu u ++ wr) → va_S A H0 H1 locs1 → W p l e R s m args below meth c H1 locs1 (cells + mc) (slots + ms) Q (F0 m (pc + 3) ls (.int r :: rest))) : W p l e R s m args below meth c H locs cells slots Q (F0 m pc ls st0) := by
  have hF := g_free (x_Dl hD) hS hA
  refine va_calli (va_runV S0 hM cw ⟨g_blind, va_recv hK hP hc he, fun U hU hW => ⟨rfl, by rw [hU], by rw [hU]; exact hP, va_K.moved hW.alike hK, (x_Dl hD).weaken (fun _ _ _ _ => trivial)⟩⟩ rfl hn hsize hstack (lv_room hW) hdg hf) hS (fun q _ h => hF q h) hF (fun r u t H1 locs1 ht hvm hw hB hz hk hS => ?_)
  obtain ⟨hP1, hK1, hD1⟩ := hB
  rw [ht] at hP1
  obtain ⟨h1, h2⟩ := x_fr hPr hD hk hF hD1
  exact kk r u H1 locs1 hw hP1 h1 h2 hS
theorem g_callvR {post : S → Prop} (S0 : CallFix p m c cc nL s args Ts own) (hM : Met l y ws rm (va_Pc (.ref b :: As) (g_Pre D cl tys w H.size)) (va_Qv post (g_At D cl tys (va_A w H.size) wu) (va_A w H.size)) mc ms (va_A w H.size))
    (cw : CallW R s args own C index y bytes maxL ret ws rm mc ms n) (hK : va_K D cl tys s) (hP : va_P D cl w H) (hPr : va_P D cl wr H) (hD : va_D A (w ++ wr)) (hS : va_S A H0 H locs) (hA : ∀ q, H0.size ≤ q → A q) (hc : cl[ci]? = some (C, T, N)) (he : w[q0]? = some (b, .inr (ci, fs)))
    (hn : As.length = n) (hsize : ls.size = nL) (hstack : st0 = As.reverse ++ .ref b :: rest) (hW : (rest.map fun v => v.category).sum ≤ 8) (hdg : decode cc pc = .ok (.invokevirtual index, 3)) (hf : cells + mc ≤ R.cells ∧ slots + ms ≤ R.slots)
    (kk : ∀ (u : S) (H1 : Heap) (locs1 : List Loc), post u → va_P D cl (wu u) H1 → va_P D cl wr H1 → va_D A (wu u ++ wr) → va_S A H0 H1 locs1 → W p l e R s m args below meth c H1 locs1 (cells + mc) (slots + ms) Q (F0 m (pc + 3) ls rest)) : W p l e R s m args below meth c H locs cells slots Q (F0 m pc ls st0) := by
  have hF := g_free (x_Dl hD) hS hA
  refine va_callv (va_runV S0 hM cw ⟨g_blind, va_recv hK hP hc he, fun U hU hW => ⟨rfl, by rw [hU], by rw [hU]; exact hP, va_K.moved hW.alike hK, (x_Dl hD).weaken (fun _ _ _ _ => trivial)⟩⟩ rfl hn hsize hstack (lv_room hW) hdg hf) hS (fun q _ h => hF q h) hF (fun u t H1 locs1 ht hvm hw hB hz hk hS => ?_)
  obtain ⟨hP1, hK1, hD1⟩ := hB
  rw [ht] at hP1
  obtain ⟨h1, h2⟩ := x_fr hPr hD hk hF hD1
  exact kk u H1 locs1 hw hP1 h1 h2 hS
/-- a constructor, with a rest of the world -/
theorem g_calljR {post : S → Prop} (S0 : CallFix p m c cc nL s args Ts own) (hM : Met l y ws rm (va_Pc [.ref b] (g_Pre D cl tys w H.size)) (va_Qv post (g_At D cl tys (va_A w H.size) wu) (va_A w H.size)) mc ms (va_A w H.size))
    (cw : CallB R s args own index y bytes maxL none ws rm mc ms 0 ∧ y.name = "<init>" ∧ (Cond.instanceMethod y).before args s = true) (hK : va_K D cl tys s) (hP : va_P D cl w H) (hPr : va_P D cl wr H) (hD : va_D A (w ++ wr)) (hS : va_S A H0 H locs) (hA : ∀ q, H0.size ≤ q → A q)
    (hsize : ls.size = nL) (hstack : st0 = .ref b :: rest) (hW : (rest.map fun v => v.category).sum ≤ 8) (hdg : decode cc pc = .ok (.invokespecial index, 3)) (hf : cells + mc ≤ R.cells ∧ slots + ms ≤ R.slots)
    (kk : ∀ (u : S) (H1 : Heap) (locs1 : List Loc), post u → va_P D cl (wu u) H1 → va_P D cl wr H1 → va_D A (wu u ++ wr) → va_S A H0 H1 locs1 → W p l e R s m args below meth c H1 locs1 (cells + mc) (slots + ms) Q (F0 m (pc + 3) ls rest)) : W p l e R s m args below meth c H locs cells slots Q (F0 m pc ls st0) := by
  have hF := g_free (x_Dl hD) hS hA
  refine va_callv (va_runI (As := []) (b := b) S0 hM cw ⟨g_blind, fun U hU hW => ⟨rfl, by rw [hU], by rw [hU]; exact hP, va_K.moved hW.alike hK, (x_Dl hD).weaken (fun _ _ _ _ => trivial)⟩⟩ rfl rfl hsize hstack (lv_room hW) hdg hf) hS (fun q _ h => hF q h) hF (fun u t H1 locs1 ht hvm hw hB hz hk hS => ?_)
  obtain ⟨hP1, hK1, hD1⟩ := hB
  rw [ht] at hP1
  obtain ⟨h1, h2⟩ := x_fr hPr hD hk hF hD1
  exact kk u H1 locs1 hw hP1 h1 h2 hS
/-- a static method with a table, with a rest of the world -/
theorem g_callSR {hh : List (Nat × Nat × Nat × Nat)} {post : Int32 → S → Prop} (S0 : CallFix p m c cc nL s args Ts own) (hM : Met l y ws rm (va_Pc As (y_Pre D cl tys w H.size)) (va_Qi post (g_At D cl tys (va_A w H.size) wu) (va_A w H.size)) mc ms (va_A w H.size))
    (cw : vx_CSW R s args own index y bytes maxL ret hh ws rm mc ms n) (hK : va_K D cl tys s) (hP : va_P D cl w H) (hPr : va_P D cl wr H) (hD : va_D A (w ++ wr)) (hS : va_S A s.heap H locs) (hA : ∀ q, s.heap.size ≤ q → A q) (hE : x_En A s s.heap) (hN : x_N s)
    (hn : As.length = n) (hsize : ls.size = nL) (hstack : st0 = As.reverse ++ rest) (hW : (rest.map fun v => v.category).sum ≤ 8) (hdg : decode cc pc = .ok (.invokestatic index, 3)) (hf : cells + mc ≤ R.cells ∧ slots + ms ≤ R.slots)
    (kk : ∀ (r : Int32) (u : S) (H1 : Heap) (locs1 : List Loc), post r u → va_P D cl (wu u) H1 → va_P D cl wr H1 → va_D A (wu u ++ wr) → va_S A s.heap H1 locs1 → W p l e R s m args below meth c H1 locs1 (cells + mc) (slots + ms) Q (F0 m (pc + 3) ls (.int r :: rest))) : W p l e R s m args below meth c H locs cells slots Q (F0 m pc ls st0) := by
  have hF := g_free (x_Dl hD) hS hA
  refine va_calli (vx_runSW S0 hM cw ⟨y_blind, fun U hU hW => ⟨rfl, ⟨by rw [hU], by rw [hU]; exact hP, va_K.moved hW.alike hK, (x_Dl hD).weaken (fun _ _ _ _ => trivial), by rw [hU]; exact hE.next hS hW hF⟩, hN.moved hW.alike⟩⟩ rfl hn hsize hstack (lv_room hW) hdg hf) hS (fun q _ h => hF q h) hF (fun r u t H1 locs1 ht hvm hw hB hz hk hS => ?_)
  obtain ⟨hP1, hK1, hD1⟩ := hB
  rw [ht] at hP1
  obtain ⟨h1, h2⟩ := x_fr hPr hD hk hF hD1
  exact kk r u H1 locs1 hw hP1 h1 h2 hS
end GR
