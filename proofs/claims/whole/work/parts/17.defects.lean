/-! Defects. -/
def g_dn (fO fA fB : Nat → Int32) (n : Nat) : Int32 := if fO n = 0 then (if fA n < 0 ∨ fB n < 0 then 4 else if fA n + fB n = 100 then 0 else 5) else (if gmv fO fA fB n = 0 then 2 else if 1 < fA n ∧ 1 < fB n then 3 else 0)
theorem k_nle {x y : Int32} (h : ¬ x ≤ y) : y < x := by rw [Int32.le_iff_toInt_le] at h; rw [Int32.lt_iff_toInt_lt]; omega
theorem k_nlt {x y : Int32} (h : ¬ x < y) : y ≤ x := by rw [Int32.lt_iff_toInt_lt] at h; rw [Int32.le_iff_toInt_le]; omega
theorem k_ltle {x y : Int32} (h : x ≤ y) (q : y < x) : False := by rw [Int32.le_iff_toInt_le] at h; rw [Int32.lt_iff_toInt_lt] at q; omega
section KD
variable {fO fA fB : Nat → Int32} {n : Nat}
theorem k_dn2 (hO : ¬ fO n = 0) (h : gmv fO fA fB n = 0) : (2 : Int32) = g_dn fO fA fB n := by unfold g_dn; rw [if_neg hO, if_pos h]
theorem k_dn3 (hO : ¬ fO n = 0) (h : ¬ gmv fO fA fB n = 0) (h1 : ¬ fA n ≤ 1) (h2 : ¬ fB n ≤ 1) : (3 : Int32) = g_dn fO fA fB n := by unfold g_dn; rw [if_neg hO, if_neg h, if_pos ⟨k_nle h1, k_nle h2⟩]
theorem k_dn0 (hO : ¬ fO n = 0) (h : ¬ gmv fO fA fB n = 0) (h1 : fA n ≤ 1 ∨ fB n ≤ 1) : (0 : Int32) = g_dn fO fA fB n := by
  unfold g_dn
  rw [if_neg hO, if_neg h, if_neg]
  rintro ⟨a, b⟩
  rcases h1 with h1 | h1
  · exact k_ltle h1 a
  · exact k_ltle h1 b
theorem k_dn4 (hO : fO n = 0) (h : fA n < 0 ∨ fB n < 0) : (4 : Int32) = g_dn fO fA fB n := by unfold g_dn; rw [if_pos hO, if_pos h]
theorem k_dn5 (hO : fO n = 0) (h : ¬ (fA n < 0 ∨ fB n < 0)) (h1 : ¬ fA n + fB n = 100) : (5 : Int32) = g_dn fO fA fB n := by unfold g_dn; rw [if_pos hO, if_neg h, if_neg h1]
theorem k_dn6 (hO : fO n = 0) (h : ¬ (fA n < 0 ∨ fB n < 0)) (h1 : fA n + fB n = 100) : (0 : Int32) = g_dn fO fA fB n := by unfold g_dn; rw [if_pos hO, if_neg h, if_pos h1]
end KD
theorem k_or2 {a b : Int32} (h1 : ¬ a < 0) (h2 : 0 ≤ b) : ¬ (a < 0 ∨ b < 0) := by
  rintro (h | h)
  · exact h1 h
  · exact k_ltle h2 h
theorem k_nge {b : Int32} (h : ¬ 0 ≤ b) : b < 0 := k_nle h
theorem k_n0 {k : Nat} (h : ¬ nI k = 0) : ¬ k = 0 := fun e => h (by rw [e]; rfl)
theorem k_e0 {k : Nat} (hk : k < 2 ^ 31) (h : nI k = 0) : k = 0 := by
  rcases Nat.eq_zero_or_pos k with q | q
  · exact q
  · exact absurd h (nI_ne0 q hk)
/-- the first state in itself bad -/
def g_d1 (c : Nat) (re : Nat → Prop) (dn : Nat → Int32) (dk ds : Int32) : Prop := ∃ n, n < c ∧ re n ∧ dn n ≠ 0 ∧ (∀ k, k < n → re k → dn k = 0) ∧ dk = dn n ∧ ds = nI n
/-- the first state that comes again -/
def g_d2 (c : Nat) (re to : Nat → Prop) (dk ds : Int32) : Prop := ∃ n, n < c ∧ re n ∧ to n ∧ (∀ k, k < n → re k → ¬ to k) ∧ dk = 6 ∧ ds = nI n
def g_df (c : Nat) (re to : Nat → Prop) (dn : Nat → Int32) (dk ds : Int32) : Prop :=
  g_d1 c re dn dk ds ∨ ((∀ k, k < c → re k → dn k = 0) ∧ (g_d2 c re to dk ds ∨ ((∀ k, k < c → re k → ¬ to k) ∧ dk = 0 ∧ ds = -1)))
/-- so far: below i -/
def g_i1 (c i : Nat) (re : Nat → Prop) (dn : Nat → Int32) (dk ds : Int32) : Prop := g_d1 c re dn dk ds ∨ ((∀ k, k < i → re k → dn k = 0) ∧ dk = 0 ∧ ds = -1)
def g_i2 (c i : Nat) (re to : Nat → Prop) (dn : Nat → Int32) (dk ds : Int32) : Prop := g_d1 c re dn dk ds ∨ ((∀ k, k < c → re k → dn k = 0) ∧ (g_d2 c re to dk ds ∨ ((∀ k, k < i → re k → ¬ to k) ∧ dk = 0 ∧ ds = -1)))
theorem g_d1_ne {c : Nat} {re : Nat → Prop} {dn : Nat → Int32} {dk ds : Int32} (h : g_d1 c re dn dk ds) : ¬ dk = 0 := by
  obtain ⟨n, _, _, h1, _, h2, _⟩ := h
  rw [h2]; exact h1
theorem g_d2_ne {c : Nat} {re to : Nat → Prop} {dk ds : Int32} (h : g_d2 c re to dk ds) : ¬ dk = 0 := by
  obtain ⟨n, _, _, _, _, h2, _⟩ := h
  rw [h2]; decide
theorem g_i1_x {c : Nat} {re : Nat → Prop} {dn : Nat → Int32} {dk ds : Int32} (h : g_i1 c c re dn dk ds) (to : Nat → Prop) : g_i2 c 0 re to dn dk ds := by
  rcases h with h | ⟨h1, h2, h3⟩
  · exact Or.inl h
  · exact Or.inr ⟨h1, Or.inr ⟨fun k hk => absurd hk (Nat.not_lt_zero _), h2, h3⟩⟩
theorem g_i1_y {c i : Nat} {re : Nat → Prop} {dn : Nat → Int32} {dk ds : Int32} (h : g_i1 c i re dn dk ds) (hd : ¬ dk = 0) (to : Nat → Prop) : g_i2 c 0 re to dn dk ds := by
  rcases h with h | ⟨_, h2, _⟩
  · exact Or.inl h
  · exact absurd h2 hd
theorem g_i1_no {c i : Nat} {re : Nat → Prop} {dn : Nat → Int32} {dk ds : Int32} (h : g_i1 c i re dn dk ds) (hn : ¬ re i) : g_i1 c (i + 1) re dn dk ds := by
  rcases h with h | ⟨h1, h2, h3⟩
  · exact Or.inl h
  · refine Or.inr ⟨fun k hk hr => ?_, h2, h3⟩
    by_cases e : k = i
    · subst e; exact absurd hr hn
    · exact h1 k (by omega) hr
theorem g_i1_st {c i : Nat} {re : Nat → Prop} {dn : Nat → Int32} {dk ds : Int32} (h : g_i1 c i re dn dk ds) (hd : dk = 0) (hi : i < c) (hr : re i) {a b : Int32} (ha : a = if dn i = 0 then dk else dn i) (hb : b = if dn i = 0 then ds else nI i) : g_i1 c (i + 1) re dn a b := by
  rcases h with h | ⟨h1, h2, h3⟩
  · exact absurd hd (g_d1_ne h)
  · by_cases e : dn i = 0
    · rw [if_pos e] at ha hb
      subst ha; subst hb
      refine Or.inr ⟨fun k hk hr => ?_, h2, h3⟩
      by_cases e2 : k = i
      · subst e2; exact e
      · exact h1 k (by omega) hr
    · rw [if_neg e] at ha hb
      exact Or.inl ⟨i, hi, hr, e, h1, ha, hb⟩
theorem g_i2_x {c : Nat} {re to : Nat → Prop} {dn : Nat → Int32} {dk ds : Int32} (h : g_i2 c c re to dn dk ds) : g_df c re to dn dk ds := h
theorem g_i2_y {c i : Nat} {re to : Nat → Prop} {dn : Nat → Int32} {dk ds : Int32} (h : g_i2 c i re to dn dk ds) (hd : ¬ dk = 0) : g_df c re to dn dk ds := by
  rcases h with h | ⟨h1, h | ⟨_, h2, _⟩⟩
  · exact Or.inl h
  · exact Or.inr ⟨h1, Or.inl h⟩
  · exact absurd h2 hd
theorem g_i2_no {c i : Nat} {re to : Nat → Prop} {dn : Nat → Int32} {dk ds : Int32} (h : g_i2 c i re to dn dk ds) (hn : re i → ¬ to i) : g_i2 c (i + 1) re to dn dk ds := by
  rcases h with h | ⟨h1, h | ⟨h2, h3, h4⟩⟩
  · exact Or.inl h
  · exact Or.inr ⟨h1, Or.inl h⟩
  · refine Or.inr ⟨h1, Or.inr ⟨fun k hk hr => ?_, h3, h4⟩⟩
    by_cases e : k = i
    · subst e; exact hn hr
    · exact h2 k (by omega) hr
theorem g_i2_st {c i : Nat} {re to : Nat → Prop} {dn : Nat → Int32} {dk ds : Int32} (h : g_i2 c i re to dn dk ds) (hd : dk = 0) (hi : i < c) (hr : re i) (ht : to i) : g_i2 c (i + 1) re to dn 6 (nI i) := by
  rcases h with h | ⟨h1, h | ⟨h2, h3, h4⟩⟩
  · exact absurd hd (g_d1_ne h)
  · exact absurd hd (g_d2_ne h)
  · exact Or.inr ⟨h1, Or.inl ⟨i, hi, hr, ht, h2, rfl, rfl⟩⟩
