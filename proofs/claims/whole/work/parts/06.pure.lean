/-! Pure rows: ways in a graph (Warshall), counting, lengths, values. Nothing of the machine. -/
/-- ways from n to m whose states between lie below k -/
def w_pt (E : Nat → Nat → Prop) : Nat → Nat → Nat → Prop
  | 0, n, m => E n m
  | k + 1, n, m => w_pt E k n m ∨ (w_pt E k n k ∧ w_pt E k k m)
theorem w_up {E : Nat → Nat → Prop} {n m : Nat} : ∀ k, E n m → w_pt E k n m
  | 0, h => h
  | k + 1, h => Or.inl (w_up k h)
theorem w_tr {E : Nat → Nat → Prop} : ∀ (k j n m : Nat), j < k → w_pt E k n j → w_pt E k j m → w_pt E k n m := by
  intro k
  induction k with
  | zero => intro j n m h; exact absurd h (Nat.not_lt_zero _)
  | succ k ih =>
    intro j n m hj h1 h2
    rcases Nat.lt_or_ge j k with hl | hg
    · rcases h1 with a | ⟨a, b⟩
      · rcases h2 with c | ⟨c, d⟩
        · exact Or.inl (ih j n m hl a c)
        · exact Or.inr ⟨ih j n k hl a c, d⟩
      · rcases h2 with c | ⟨c, d⟩
        · exact Or.inr ⟨a, ih j k m hl b c⟩
        · exact Or.inr ⟨a, d⟩
    · have e : j = k := by omega
      subst e
      have a : w_pt E j n j := by
        rcases h1 with a | ⟨a, _⟩
        · exact a
        · exact a
      have b : w_pt E j j m := by
        rcases h2 with b | ⟨_, b⟩
        · exact b
        · exact b
      exact Or.inr ⟨a, b⟩
theorem w_in {E X : Nat → Nat → Prop} (hE : ∀ n m, E n m → X n m) (hT : ∀ a b c, X a b → X b c → X a c) : ∀ k n m, w_pt E k n m → X n m := by
  intro k
  induction k with
  | zero => intro n m h; exact hE n m h
  | succ k ih =>
    intro n m h
    rcases h with a | ⟨a, b⟩
    · exact ih n m a
    · exact hT n k m (ih n k a) (ih k m b)
/-- the first step of a way -/
theorem w_fst {E : Nat → Nat → Prop} {k n m : Nat} (h : w_pt E k n m) : ∃ j, E n j ∧ (j = m ∨ ∃ k', k' ≤ k ∧ w_pt E k' j m) := by
  induction k generalizing n m with
  | zero => exact ⟨m, h, Or.inl rfl⟩
  | succ k ih =>
    rcases h with a | ⟨a, b⟩
    · obtain ⟨j, h1, h2⟩ := ih a
      refine ⟨j, h1, ?_⟩
      rcases h2 with h2 | ⟨k', h2, h3⟩
      · exact Or.inl h2
      · exact Or.inr ⟨k', by omega, h3⟩
    · obtain ⟨j, h1, h2⟩ := ih a
      refine ⟨j, h1, ?_⟩
      rcases h2 with h2 | ⟨k', h2, h3⟩
      · subst h2
        exact Or.inr ⟨j, by omega, b⟩
      · refine Or.inr ⟨k + 1, Nat.le_refl _, ?_⟩
        have up : ∀ d a b c, w_pt E d a b → d ≤ c → w_pt E c a b := by
          intro d a b c hd
          intro hc
          induction c with
          | zero => have : d = 0 := by omega
                    subst this; exact hd
          | succ c ihc =>
            rcases Nat.lt_or_ge c d with q | q
            · have : d = c + 1 := by omega
              subst this; exact hd
            · exact Or.inl (ihc q)
        exact Or.inr ⟨up _ _ _ _ h3 h2, b⟩
theorem w_le {E : Nat → Nat → Prop} {d a b c : Nat} (hd : w_pt E d a b) (hc : d ≤ c) : w_pt E c a b := by
  induction c with
  | zero =>
    have : d = 0 := by omega
    subst this; exact hd
  | succ c ihc =>
    rcases Nat.lt_or_ge c d with q | q
    · have : d = c + 1 := by omega
      subst this; exact hd
    · exact Or.inl (ihc q)
/-- how many below k -/
noncomputable def w_ct (P : Nat → Prop) : Nat → Nat
  | 0 => 0
  | k + 1 => w_ct P k + @ite Nat (P k) (Classical.propDecidable _) 1 0
theorem w_ct_mono {P Q : Nat → Prop} : ∀ k, (∀ i, i < k → P i → Q i) → w_ct P k ≤ w_ct Q k := by
  intro k
  induction k with
  | zero => intro _; exact Nat.le_refl _
  | succ k ih =>
    intro h
    have h1 := ih (fun i hi => h i (by omega))
    have h2 := h k (by omega)
    unfold w_ct
    by_cases hp : P k
    · rw [if_pos hp, if_pos (h2 hp)]; omega
    · rw [if_neg hp]; omega
theorem w_ct_lt {P Q : Nat → Prop} : ∀ k, (∀ i, i < k → P i → Q i) → ∀ j, j < k → Q j → ¬ P j → w_ct P k < w_ct Q k := by
  intro k
  induction k with
  | zero => intro _ j hj; exact absurd hj (Nat.not_lt_zero _)
  | succ k ih =>
    intro h j hj hq hp
    unfold w_ct
    rcases Nat.lt_or_ge j k with hl | hg
    · have h1 := ih (fun i hi => h i (by omega)) j hl hq hp
      have h2 := h k (by omega)
      by_cases hk : P k
      · rw [if_pos hk, if_pos (h2 hk)]; omega
      · rw [if_neg hk]; omega
    · have e : j = k := by omega
      subst e
      have h1 := w_ct_mono j (fun i hi => h i (by omega))
      rw [if_pos hq, if_neg hp]; omega
theorem w_ct_all (k : Nat) : w_ct (fun _ => True) k = k := by
  induction k with
  | zero => rfl
  | succ k ih => unfold w_ct; rw [ih, if_pos trivial]
/-- the rank of a state: how many it comes to -/
noncomputable def w_rk (E : Nat → Nat → Prop) (c n : Nat) : Nat := w_ct (fun m => w_pt E c n m) c
theorem w_rk_lt {E : Nat → Nat → Prop} {c n m : Nat} (he : E n m) (hm : m < c) (ha : ¬ w_pt E c m m) : w_rk E c m < w_rk E c n :=
  w_ct_lt c (fun i _ h => w_tr c m n i hm (w_up c he) h) m hm (w_up c he) ha
theorem w_rk_c {E : Nat → Nat → Prop} {c n : Nat} (hn : n < c) (ha : ¬ w_pt E c n n) : w_rk E c n < c := by
  have h := w_ct_lt (P := fun m => w_pt E c n m) (Q := fun _ => True) c (fun _ _ _ => trivial) n hn trivial ha
  rw [w_ct_all] at h
  exact h
/-- greatest of g below k, at least 0; least, at most 100 -/
def w_mx (g : Nat → Int) : Nat → Int
  | 0 => 0
  | k + 1 => max (w_mx g k) (g k)
def w_mn (g : Nat → Int) : Nat → Int
  | 0 => 100
  | k + 1 => min (w_mn g k) (g k)
theorem w_mx_c {g h : Nat → Int} : ∀ k, (∀ j, j < k → g j = h j) → w_mx g k = w_mx h k
  | 0, _ => rfl
  | k + 1, q => by unfold w_mx; rw [w_mx_c k (fun j hj => q j (by omega)), q k (by omega)]
theorem w_mn_c {g h : Nat → Int} : ∀ k, (∀ j, j < k → g j = h j) → w_mn g k = w_mn h k
  | 0, _ => rfl
  | k + 1, q => by unfold w_mn; rw [w_mn_c k (fun j hj => q j (by omega)), q k (by omega)]
theorem w_mx_0 (g : Nat → Int) : ∀ k, 0 ≤ w_mx g k
  | 0 => Int.le_refl _
  | k + 1 => by have := w_mx_0 g k; unfold w_mx; omega
theorem w_mx_le {g : Nat → Int} {b : Int} (hb : 0 ≤ b) : ∀ k, (∀ j, j < k → g j ≤ b) → w_mx g k ≤ b
  | 0, _ => hb
  | k + 1, q => by have h1 := w_mx_le hb k (fun j hj => q j (by omega)); have h2 := q k (by omega); unfold w_mx; omega
theorem w_mx_ge {g : Nat → Int} : ∀ k j, j < k → g j ≤ w_mx g k
  | 0, j, h => absurd h (Nat.not_lt_zero _)
  | k + 1, j, h => by
    unfold w_mx
    rcases Nat.lt_or_ge j k with q | q
    · have := w_mx_ge (g := g) k j q; omega
    · have e : j = k := by omega
      subst e; omega
theorem w_mx_mono {g : Nat → Int} : ∀ k j, j ≤ k → w_mx g j ≤ w_mx g k
  | 0, j, h => by have e : j = 0 := by omega
                  subst e; exact Int.le_refl _
  | k + 1, j, h => by
    rcases Nat.lt_or_ge k j with q | q
    · have e : j = k + 1 := by omega
      subst e; exact Int.le_refl _
    · have := w_mx_mono (g := g) k j q
      show w_mx g j ≤ max (w_mx g k) (g k)
      omega
theorem w_mx_at {g : Nat → Int} : ∀ k, 0 < k → (∀ j, j < k → 0 ≤ g j) → ∃ j, j < k ∧ w_mx g k = g j
  | 0, h, _ => absurd h (Nat.lt_irrefl _)
  | k + 1, _, q => by
    rcases Nat.eq_zero_or_pos k with e | e
    · subst e
      have := q 0 (by omega)
      exact ⟨0, by omega, by show max 0 (g 0) = g 0; omega⟩
    · obtain ⟨j, h1, h2⟩ := w_mx_at k e (fun j hj => q j (by omega))
      by_cases hc : g k ≤ w_mx g k
      · exact ⟨j, by omega, by show max (w_mx g k) (g k) = g j; omega⟩
      · exact ⟨k, by omega, by show max (w_mx g k) (g k) = g k; omega⟩
theorem w_mn_100 (g : Nat → Int) : ∀ k, w_mn g k ≤ 100
  | 0 => Int.le_refl _
  | k + 1 => by have := w_mn_100 g k; unfold w_mn; omega
theorem w_mn_ge {g : Nat → Int} {b : Int} (hb : b ≤ 100) : ∀ k, (∀ j, j < k → b ≤ g j) → b ≤ w_mn g k
  | 0, _ => hb
  | k + 1, q => by have h1 := w_mn_ge hb k (fun j hj => q j (by omega)); have h2 := q k (by omega); unfold w_mn; omega
theorem w_mn_le {g : Nat → Int} : ∀ k j, j < k → w_mn g k ≤ g j
  | 0, j, h => absurd h (Nat.not_lt_zero _)
  | k + 1, j, h => by
    unfold w_mn
    rcases Nat.lt_or_ge j k with q | q
    · have := w_mn_le (g := g) k j q; omega
    · have e : j = k := by omega
      subst e; omega
theorem w_mn_mono {g : Nat → Int} : ∀ k j, j ≤ k → w_mn g k ≤ w_mn g j
  | 0, j, h => by have e : j = 0 := by omega
                  subst e; exact Int.le_refl _
  | k + 1, j, h => by
    rcases Nat.lt_or_ge k j with q | q
    · have e : j = k + 1 := by omega
      subst e; exact Int.le_refl _
    · have := w_mn_mono (g := g) k j q
      show min (w_mn g k) (g k) ≤ w_mn g j
      omega
theorem w_mn_at {g : Nat → Int} : ∀ k, 0 < k → (∀ j, j < k → g j ≤ 100) → ∃ j, j < k ∧ w_mn g k = g j
  | 0, h, _ => absurd h (Nat.lt_irrefl _)
  | k + 1, _, q => by
    rcases Nat.eq_zero_or_pos k with e | e
    · subst e
      have := q 0 (by omega)
      exact ⟨0, by omega, by show min 100 (g 0) = g 0; omega⟩
    · obtain ⟨j, h1, h2⟩ := w_mn_at k e (fun j hj => q j (by omega))
      by_cases hc : w_mn g k ≤ g k
      · exact ⟨j, by omega, by show min (w_mn g k) (g k) = g j; omega⟩
      · exact ⟨k, by omega, by show min (w_mn g k) (g k) = g k; omega⟩
/-- what a search with the window (al, be) may answer for a value v -/
def w_ok (r v al be : Int) : Prop := (v ≤ al → v ≤ r ∧ r ≤ al) ∧ (al < v → v < be → r = v) ∧ (be ≤ v → be ≤ r ∧ r ≤ v)
theorem w_ok_rf (v al be : Int) : w_ok v v al be := ⟨fun h => ⟨Int.le_refl _, h⟩, fun _ _ => rfl, fun h => ⟨h, Int.le_refl _⟩⟩
theorem w_ok_mx {f M r v al be : Int} (h : w_ok f M al be) (hw : al < be) (hf : f < be) (hr : w_ok r v (max al f) be) : w_ok (max f r) (max M v) al be := by
  obtain ⟨a1, a2, a3⟩ := h
  obtain ⟨b1, b2, b3⟩ := hr
  refine ⟨?_, ?_, ?_⟩ <;> omega
theorem w_ok_mn {f M r v al be : Int} (h : w_ok f M al be) (hw : al < be) (hf : al < f) (hr : w_ok r v al (min be f)) : w_ok (min f r) (min M v) al be := by
  obtain ⟨a1, a2, a3⟩ := h
  obtain ⟨b1, b2, b3⟩ := hr
  refine ⟨?_, ?_, ?_⟩ <;> omega
theorem w_ok_cutx {f M v al be : Int} (h : w_ok f M al be) (hw : al < be) (hf : be ≤ f) (hv : M ≤ v) : w_ok f v al be := by
  obtain ⟨a1, a2, a3⟩ := h
  refine ⟨?_, ?_, ?_⟩ <;> omega
theorem w_ok_cutn {f M v al be : Int} (h : w_ok f M al be) (hw : al < be) (hf : f ≤ al) (hv : v ≤ M) : w_ok f v al be := by
  obtain ⟨a1, a2, a3⟩ := h
  refine ⟨?_, ?_, ?_⟩ <;> omega
theorem w_ok_lo {r v al be : Int} (h : w_ok r v al be) (hw : al < be) (hr : al < r) : r ≤ v := by
  obtain ⟨a1, a2, a3⟩ := h
  omega
theorem w_ok_hi {r v al be : Int} (h : w_ok r v al be) (hw : al < be) (hr : r < be) : v ≤ r := by
  obtain ⟨a1, a2, a3⟩ := h
  omega
