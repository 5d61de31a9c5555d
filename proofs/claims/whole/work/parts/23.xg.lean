/-! Methods that may throw: what a throw needs is carried along (x_En); calls with the whole world. -/
def x_strs : List (String × Nat × String) := [("GameGraph", 42, "the number of states is not 1 .. 60"), ("GameGraph", 117, "there is no such state"), ("GameGraph", 54, "a goal is not -2 .. 100"), ("GameGraph", 63, "a number of moves is not 0 .. 12, or the product is above 12"), ("GameGraph", 123, "the state has no such joint move"), ("GameGraph", 90, "what is not 0 or 1"), ("GameGraph", 127, "the graph has a defect"), ("GameGraph", 134, "there is no such state, or it is not reached")]
def x_bad : List Cond := [Cond.castable "java/lang/IllegalArgumentException" "java/lang/IllegalArgumentException", Cond.castable "java/lang/IndexOutOfBoundsException" "java/lang/IndexOutOfBoundsException", Cond.castable "java/lang/IllegalStateException" "java/lang/IllegalStateException", Cond.declares ⟨"java/lang/RuntimeException", "<init>", "(Ljava/lang/String;)V"⟩, Cond.declares ⟨"java/lang/Exception", "<init>", "(Ljava/lang/String;)V"⟩, Cond.declares ⟨"java/lang/Throwable", "<init>", "(Ljava/lang/String;)V"⟩]
theorem x_bad_moved {u U : State} (hW : u.WarmedH U.vm) (h : ∀ w ∈ x_bad, va_Nw w u) : ∀ w ∈ x_bad, va_Nw w U := by
  intro w hw
  have h1 := h w hw
  simp only [x_bad, List.mem_cons, List.not_mem_nil, or_false] at hw
  rcases hw with rfl | rfl | rfl | rfl | rfl | rfl
  · exact va_Nw.warmC hW h1
  · exact va_Nw.warmC hW h1
  · exact va_Nw.warmC hW h1
  · exact va_Nw.warmD hW h1
  · exact va_Nw.warmD hW h1
  · exact va_Nw.warmD hW h1
theorem x_bad_ot : ∀ w ∈ x_bad, w.onTables = true := by decide +kernel
def x_En (A : Nat → Prop) (U : State) (H : Heap) : Prop := vx_Zq Bundle.tN "UNASSIGNED_STACK" Bundle.steD A U H ∧ vx_Zq Bundle.tN "SUPPRESSED_SENTINEL" Bundle.listD A U H ∧ (∀ w ∈ x_bad, va_Nw w U) ∧ ∀ p ∈ x_strs, ∃ q, vk_R p.1 p.2.1 p.2.2 q U
theorem x_En.next {A B : Nat → Prop} {s U : State} {H : Heap} {locs : List Loc} (h : x_En A s s.heap) (hS : va_S A s.heap H locs) (hW : s.WarmedH U.vm) (hAB : ∀ q, B q → A q) : x_En B U H := by
  obtain ⟨h1, h2, hb, h3⟩ := h
  refine ⟨((h1.moved hW.alike).kept (fun a ha hA => hS.2.1 a ha hA)).narrow hAB, ((h2.moved hW.alike).kept (fun a ha hA => hS.2.1 a ha hA)).narrow hAB, x_bad_moved hW hb, fun p hp => ?_⟩
  obtain ⟨q, hq⟩ := h3 p hp
  exact ⟨q, hq.warm hW⟩
abbrev x_Pre (D : va_G) (cl : List vw_C) (tys : List (ClassId × FieldType)) (w : va_W) (sz : Nat) : State → Prop := fun U => U.heap.size = sz ∧ va_P D cl w U.heap ∧ va_K D cl tys U ∧ va_D (fun _ => True) w ∧ x_En (va_A w sz) U U.heap
theorem x_blind {av : List Value} {D : va_G} {cl : List vw_C} {tys : List (ClassId × FieldType)} {w : va_W} {sz : Nat} : FrameBlind (va_Pc av (x_Pre D cl tys w sz)) := fun a U g mk q => by
  obtain ⟨q0, q1, qP, qK, qD, e1, e2, hb, e3⟩ := q
  have al : U.vm.Alike (U.calling g mk a).vm := Vm.Alike.refl U.vm
  refine ⟨q0, q1, qP, va_K.moved (u := U) (U := U.calling g mk a) al qK, qD, vx_Zq.moved (u := U) (U := U.calling g mk a) al e1, vx_Zq.moved (u := U) (U := U.calling g mk a) al e2, fun w hw => va_Nw.same (u := U) (U := U.calling g mk a) (x_bad_ot w hw) rfl (hb w hw), fun p hp => ?_⟩
  obtain ⟨q, hq⟩ := e3 p hp
  exact ⟨q, vk_R.same (u := U) rfl hq⟩
abbrev x_XC (D : va_G) (cl : List vw_C) (tys : List (ClassId × FieldType)) (A : Nat → Prop) {S : Type} (wu : S → va_W) (thr : String → S → Prop) : String → State → State → Prop := vx_X (fun _ : S => True) (fun E u t => thr E u ∧ g_At D cl tys A wu u t) A
theorem x_atA : ∀ w ∈ (vx_atS "GameGraph" 44 "java/lang/IllegalArgumentException" ["java/lang/RuntimeException", "java/lang/Exception"]).filter goodWord, w ∈ wAll := by decide +kernel
theorem x_abA : ∀ w ∈ (vx_atS "GameGraph" 44 "java/lang/IllegalArgumentException" ["java/lang/RuntimeException", "java/lang/Exception"]).filter (fun w => !goodWord w), w ∈ x_bad := by decide +kernel
theorem x_agA : ∀ w ∈ vx_atS "GameGraph" 44 "java/lang/IllegalArgumentException" ["java/lang/RuntimeException", "java/lang/Exception"], vx_ot w = true := by decide +kernel
theorem x_atI : ∀ w ∈ (vx_atS "GameGraph" 119 "java/lang/IndexOutOfBoundsException" ["java/lang/RuntimeException", "java/lang/Exception"]).filter goodWord, w ∈ wAll := by decide +kernel
theorem x_abI : ∀ w ∈ (vx_atS "GameGraph" 119 "java/lang/IndexOutOfBoundsException" ["java/lang/RuntimeException", "java/lang/Exception"]).filter (fun w => !goodWord w), w ∈ x_bad := by decide +kernel
theorem x_agI : ∀ w ∈ vx_atS "GameGraph" 119 "java/lang/IndexOutOfBoundsException" ["java/lang/RuntimeException", "java/lang/Exception"], vx_ot w = true := by decide +kernel
theorem x_atS : ∀ w ∈ (vx_atS "GameGraph" 129 "java/lang/IllegalStateException" ["java/lang/RuntimeException", "java/lang/Exception"]).filter goodWord, w ∈ wAll := by decide +kernel
theorem x_abS : ∀ w ∈ (vx_atS "GameGraph" 129 "java/lang/IllegalStateException" ["java/lang/RuntimeException", "java/lang/Exception"]).filter (fun w => !goodWord w), w ∈ x_bad := by decide +kernel
theorem x_agS : ∀ w ∈ vx_atS "GameGraph" 129 "java/lang/IllegalStateException" ["java/lang/RuntimeException", "java/lang/Exception"], vx_ot w = true := by decide +kernel
section GX
variable {p : Program} {l : Launch} {e : Env} {R : Room} {s : State} {m : MethodId} {args : Array Value} {below : List Frame} {meth : Method} {c : Code} {H : Heap} {locs : List Loc} {cells slots : Nat} {Q : State → Prop}
variable {cc bytes : ByteArray} {pc nL n index maxL mc ms : Nat} {ret : Option FieldType} {ls : Array Slot} {rest st0 As : List Value} {A : Nat → Prop} {D : va_G} {cl : List vw_C} {tys : List (ClassId × FieldType)} {S : Type} {wu : S → va_W} {w : va_W} {ws Ts : List Cond} {rm : Room} {y : MethodName} {own C : String} {T : u_T} {b ci q0 N : Nat} {fs : List Value}
theorem g_callxv {post : S → Prop} {thr : String → S → Prop} (S0 : CallFix p m c cc nL s args Ts own) (hM : vx_Met l y ws rm (va_Pc (.ref b :: As) (x_Pre D cl tys w H.size)) (va_Qv post (g_At D cl tys (va_A w H.size) wu) (va_A w H.size)) (x_XC D cl tys (va_A w H.size) wu thr) mc ms (va_A w H.size))
    (cw : CallW R s args own C index y bytes maxL ret ws rm mc ms n) (hK : va_K D cl tys s) (hP : va_P D cl w H) (hD : va_D A w) (hS : va_S A s.heap H locs) (hA : ∀ q, s.heap.size ≤ q → A q) (hE : x_En A s s.heap) (hc : cl[ci]? = some (C, T, N)) (he : w[q0]? = some (b, .inr (ci, fs)))
    (hn : As.length = n) (hsize : ls.size = nL) (hstack : st0 = As.reverse ++ .ref b :: rest) (hW : (rest.map fun v => v.category).sum ≤ 8) (hdg : decode cc pc = .ok (.invokevirtual index, 3)) (hf : cells + mc ≤ R.cells ∧ slots + ms ≤ R.slots)
    (kr : ∀ (u : S) (H1 : Heap) (locs1 : List Loc), post u → va_P D cl (wu u) H1 → va_D A (wu u) → va_S A s.heap H1 locs1 → W p l e R s m args below meth c H1 locs1 (cells + mc) (slots + ms) Q (F0 m (pc + 3) ls (rest)))
    (kt : ∀ (E : String) (ce : Cell) (q9 : Addr) (u : S) (H1 : Heap) (locs1 : List Loc), thr E u → va_P D cl (wu u) H1 → va_D A (wu u) → va_S A s.heap H1 locs1 → H1[q9]? = some ce → ce.vm = .none → s.vm.findClass E = some ce.cls → vx_W p l e R s m args below meth c H1 locs1 (cells + mc) (slots + ms) Q (F0 m pc ls rest) q9) : W p l e R s m args below meth c H locs cells slots Q (F0 m pc ls st0) := by
  have hF := g_free hD hS hA
  refine vx_callv (vx_runV S0 hM cw ⟨x_blind, va_recv hK hP hc he, fun U hU hW => ⟨rfl, by rw [hU], by rw [hU]; exact hP, va_K.moved hW.alike hK, hD.weaken (fun _ _ _ _ => trivial), by rw [hU]; exact hE.next hS hW hF⟩⟩ rfl hn hsize hstack (lv_room hW) hdg hf) hS (fun q _ h => hF q h) hF (fun q _ h => hF q h)
    (fun E ce q9 u t H1 locs1 ht hvm _ hB hz hk hS hce hcv hcl => ?_) (fun u t H1 locs1 ht hvm hw hB hz hk hS => ?_)
  · obtain ⟨hth, hP1, hK1, hD1⟩ := hB
    rw [ht] at hP1
    exact kt E ce q9 u H1 locs1 hth hP1 (hD1.weaken (fun _ _ _ h => hF _ h)) hS hce hcv hcl
  · obtain ⟨hP1, hK1, hD1⟩ := hB
    rw [ht] at hP1
    exact kr u H1 locs1 hw hP1 (hD1.weaken (fun _ _ _ h => hF _ h)) hS
theorem g_callxi {post : Int32 → S → Prop} {thr : String → S → Prop} (S0 : CallFix p m c cc nL s args Ts own) (hM : vx_Met l y ws rm (va_Pc (.ref b :: As) (x_Pre D cl tys w H.size)) (va_Qi post (g_At D cl tys (va_A w H.size) wu) (va_A w H.size)) (x_XC D cl tys (va_A w H.size) wu thr) mc ms (va_A w H.size))
    (cw : CallW R s args own C index y bytes maxL ret ws rm mc ms n) (hK : va_K D cl tys s) (hP : va_P D cl w H) (hD : va_D A w) (hS : va_S A s.heap H locs) (hA : ∀ q, s.heap.size ≤ q → A q) (hE : x_En A s s.heap) (hc : cl[ci]? = some (C, T, N)) (he : w[q0]? = some (b, .inr (ci, fs)))
    (hn : As.length = n) (hsize : ls.size = nL) (hstack : st0 = As.reverse ++ .ref b :: rest) (hW : (rest.map fun v => v.category).sum ≤ 8) (hdg : decode cc pc = .ok (.invokevirtual index, 3)) (hf : cells + mc ≤ R.cells ∧ slots + ms ≤ R.slots)
    (kr : ∀ (r : Int32) (u : S) (H1 : Heap) (locs1 : List Loc), post r u → va_P D cl (wu u) H1 → va_D A (wu u) → va_S A s.heap H1 locs1 → W p l e R s m args below meth c H1 locs1 (cells + mc) (slots + ms) Q (F0 m (pc + 3) ls (.int r :: rest)))
    (kt : ∀ (E : String) (ce : Cell) (q9 : Addr) (u : S) (H1 : Heap) (locs1 : List Loc), thr E u → va_P D cl (wu u) H1 → va_D A (wu u) → va_S A s.heap H1 locs1 → H1[q9]? = some ce → ce.vm = .none → s.vm.findClass E = some ce.cls → vx_W p l e R s m args below meth c H1 locs1 (cells + mc) (slots + ms) Q (F0 m pc ls rest) q9) : W p l e R s m args below meth c H locs cells slots Q (F0 m pc ls st0) := by
  have hF := g_free hD hS hA
  refine vx_calli (vx_runV S0 hM cw ⟨x_blind, va_recv hK hP hc he, fun U hU hW => ⟨rfl, by rw [hU], by rw [hU]; exact hP, va_K.moved hW.alike hK, hD.weaken (fun _ _ _ _ => trivial), by rw [hU]; exact hE.next hS hW hF⟩⟩ rfl hn hsize hstack (lv_room hW) hdg hf) hS (fun q _ h => hF q h) hF (fun q _ h => hF q h)
    (fun E ce q9 u t H1 locs1 ht hvm _ hB hz hk hS hce hcv hcl => ?_) (fun r u t H1 locs1 ht hvm hw hB hz hk hS => ?_)
  · obtain ⟨hth, hP1, hK1, hD1⟩ := hB
    rw [ht] at hP1
    exact kt E ce q9 u H1 locs1 hth hP1 (hD1.weaken (fun _ _ _ h => hF _ h)) hS hce hcv hcl
  · obtain ⟨hP1, hK1, hD1⟩ := hB
    rw [ht] at hP1
    exact kr r u H1 locs1 hw hP1 (hD1.weaken (fun _ _ _ h => hF _ h)) hS
end GX
