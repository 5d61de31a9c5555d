/-! Spreading a set of states, round by round. -/
def m_cl (c : Nat) (mv : Nat → Nat) (tg : Nat → Nat → Nat) (X : Nat → Prop) (m : Nat) : Prop := ∃ s, s < c ∧ X s ∧ (s = m ∨ s_to c mv tg s m)
def m_cd (c : Nat) (mv : Nat → Nat) (tg : Nat → Nat → Nat) (X : Nat → Prop) : Prop := ∀ k, k < c → X k → ∀ i, i < mv k → X (tg k i)
section MP
variable {c : Nat} {mv : Nat → Nat} {tg : Nat → Nat → Nat} {X X0 X1 X2 : Nat → Prop}
theorem m_cl_sub (h : s_ok c mv tg) (hc : m_cd c mv tg X) (h0 : ∀ s, s < c → X0 s → X s) {m : Nat} (hm : m_cl c mv tg X0 m) : X m := by
  obtain ⟨s, hs, hx, e | ht⟩ := hm
  · subst e; exact h0 s hs hx
  · exact (w_in (X := fun a b => a < c → X a → b < c ∧ X b) (fun a b ⟨j, hj, e⟩ ha hxa => by subst e; exact ⟨h.2 a ha j hj, hc a ha hxa j hj⟩) (fun _ _ _ p q ha hxa => q (p ha hxa).1 (p ha hxa).2) c s m ht hs (h0 s hs hx)).2
theorem m_cl_st (h : s_ok c mv tg) {k i : Nat} (hk : m_cl c mv tg X0 k) (hkc : k < c) (hi : i < mv k) : m_cl c mv tg X0 (tg k i) := by
  obtain ⟨s, hs, hx, e | ht⟩ := hk
  · subst e; exact ⟨s, hs, hx, Or.inr (s_to_ed hi)⟩
  · exact ⟨s, hs, hx, Or.inr (w_tr c k s _ hkc ht (s_to_ed hi))⟩
theorem m_full (h : c ≤ w_ct X c) : ∀ m, m < c → X m := by
  intro m hm
  refine Classical.byContradiction fun q => ?_
  have := w_ct_lt (P := X) (Q := fun _ => True) c (fun _ _ _ => trivial) m hm trivial q
  rw [w_ct_all] at this
  omega
theorem m_round (h : s_ok c mv tg) {rd : Nat} (hI : m_cd c mv tg X1 ∨ rd ≤ w_ct X1 c) (h0 : ∀ s, s < c → X0 s → X1 s) (hmo : ∀ m, m < c → X1 m → X2 m) (hst : ∀ k, k < c → X1 k → ∀ i, i < mv k → X2 (tg k i)) (hso : ∀ m, m < c → X2 m → m_cl c mv tg X0 m) : m_cd c mv tg X2 ∨ rd + 1 ≤ w_ct X2 c := by
  by_cases hc : m_cd c mv tg X1
  · left
    intro k hk hx i hi
    have hx1 : X1 k := m_cl_sub h hc h0 (hso k hk hx)
    exact hmo _ (h.2 k hk i hi) (hc k hk hx1 i hi)
  · right
    rcases hI with q | q
    · exact absurd q hc
    · have : ∃ k i, k < c ∧ X1 k ∧ i < mv k ∧ ¬ X1 (tg k i) := by
        refine Classical.byContradiction fun z => hc fun k hk hx i hi => ?_
        exact Classical.byContradiction fun y => z ⟨k, i, hk, hx, hi, y⟩
      obtain ⟨k, i, hk, hx, hi, hn⟩ := this
      have := w_ct_lt (P := X1) (Q := X2) c (fun m hm => hmo m hm) (tg k i) (h.2 k hk i hi) (hst k hk hx i hi) hn
      omega
theorem m_end (h : s_ok c mv tg) (hI : m_cd c mv tg X1 ∨ c ≤ w_ct X1 c) (h0 : ∀ s, s < c → X0 s → X1 s) (hso : ∀ m, m < c → X1 m → m_cl c mv tg X0 m) : ∀ m, m < c → (X1 m ↔ m_cl c mv tg X0 m) := by
  intro m hm
  refine ⟨hso m hm, fun q => ?_⟩
  rcases hI with hI | hI
  · exact m_cl_sub h hI h0 q
  · exact m_full hI m hm
theorem m_cl_0 {m : Nat} (hc : 0 < c) (hX : ∀ s, s < c → (X s ↔ s = 0)) : m_cl c mv tg X m ↔ s_re c mv tg m := by
  constructor
  · rintro ⟨s, hs, hx, q⟩
    have e := (hX s hs).mp hx
    subst e
    rcases q with q | q
    · exact Or.inl q.symm
    · exact Or.inr q
  · rintro (q | q)
    · exact ⟨0, hc, (hX 0 hc).mpr rfl, Or.inl q.symm⟩
    · exact ⟨0, hc, (hX 0 hc).mpr rfl, Or.inr q⟩
theorem m_cl_n (h : s_ok c mv tg) {n m : Nat} (hn : n < c) (hX : ∀ s, s < c → (X s ↔ ∃ i, i < mv n ∧ tg n i = s)) : m_cl c mv tg X m ↔ s_to c mv tg n m := by
  constructor
  · rintro ⟨s, hs, hx, q⟩
    obtain ⟨i, hi, e⟩ := (hX s hs).mp hx
    have h1 : s_to c mv tg n s := by rw [← e]; exact s_to_ed hi
    rcases q with q | q
    · subst q; exact h1
    · exact w_tr c s n m hs h1 q
  · intro q
    obtain ⟨s, ⟨i, hi, e⟩, q2⟩ := w_fst q
    have hs : s < c := by rw [← e]; exact h.2 n hn i hi
    refine ⟨s, hs, (hX s hs).mpr ⟨i, hi, e⟩, ?_⟩
    rcases q2 with q2 | ⟨k', hk', q2⟩
    · exact Or.inl q2
    · exact Or.inr (w_le q2 hk')
end MP
/-- an array of truths -/
def m_bo (c : Nat) (f : Nat → Int32) : Prop := ∀ m, m < c → f m = 0 ∨ f m = 1
theorem m_bo_u {c : Nat} {f : Nat → Int32} (h : m_bo c f) (t : Nat) {x : Int32} (hx : x = 0 ∨ x = 1) : m_bo c (upd f t x) := by
  intro m hm
  by_cases e : m = t
  · subst e; rw [pk_us]; exact hx
  · rw [pk_un e]; exact h m hm
theorem m_up {f : Nat → Int32} {t m : Nat} (h : ¬ f m = 0) : ¬ upd f t 1 m = 0 := by
  by_cases e : m = t
  · subst e; rw [pk_us]; decide
  · rw [pk_un e]; exact h
theorem m_up1 {f : Nat → Int32} {t : Nat} : ¬ upd f t 1 t = 0 := by rw [pk_us]; decide
theorem m_ups {f : Nat → Int32} {t m : Nat} {P : Nat → Prop} (h : ¬ f m = 0 → P m) (ht : P t) (hx : ¬ upd f t 1 m = 0) : P m := by
  by_cases e : m = t
  · subst e; exact ht
  · rw [pk_un e] at hx; exact h hx
section MO
variable {c : Nat} {sO sA sB sT fO fG fH fM fN fT : Nat → Int32} {n : Nat}
theorem m_op (h : m_rel c sO sA sB sT fO fG fH fM fN fT) (hn : n < c) (h0 : ¬ fO n = 0) : ¬ sO n = 0 ∧ fM n = sA n ∧ fN n = sB n := by
  have e := (h n hn).1
  have q : ¬ sO n = 0 := fun z => h0 (by rw [e]; exact z)
  exact ⟨q, ((h n hn).2.2 q).1, ((h n hn).2.2 q).2.1⟩
theorem m_en (h : m_rel c sO sA sB sT fO fG fH fM fN fT) (hn : n < c) (h0 : fO n = 0) : sO n = 0 ∧ fG n = sA n ∧ fH n = sB n := by
  have e := (h n hn).1
  have q : sO n = 0 := by rw [← e]; exact h0
  exact ⟨q, ((h n hn).2.1 q).1, ((h n hn).2.1 q).2⟩
theorem m_g0 (hg : g_ok c sO sA sB sT) (hn : n < c) (h0 : ¬ sO n = 0) (h : sA n = 0 ∨ sB n = 0) : gmv sO sA sB n = 0 := by
  unfold gmv
  rw [if_neg h0]
  rcases h with h | h
  · rw [h]; show 0 * _ = 0; rw [Nat.zero_mul]
  · rw [h]; show _ * 0 = 0; rw [Nat.mul_zero]
theorem m_g1 (hg : g_ok c sO sA sB sT) (hn : n < c) (h0 : ¬ sO n = 0) (h1 : ¬ sA n = 0) (h2 : ¬ sB n = 0) : ¬ gmv sO sA sB n = 0 := by
  obtain ⟨a, b, ha, hb, hab, ea, eb⟩ := (hg.2.2 n hn).2.2.1 h0
  unfold gmv
  rw [if_neg h0, ea, eb, nI_clamp (by omega), nI_clamp (by omega)]
  rw [ea] at h1
  rw [eb] at h2
  have q1 := k_n0 h1
  have q2 := k_n0 h2
  intro q
  rcases Nat.mul_eq_zero.mp q with z | z
  · exact q1 z
  · exact q2 z
end MO
