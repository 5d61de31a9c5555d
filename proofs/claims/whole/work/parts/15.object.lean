/-! The graph that an object holds. -/
def gmv (fO fA fB : Nat → Int32) (n : Nat) : Nat := if fO n = 0 then 0 else (fA n).toNatClampNeg * (fB n).toNatClampNeg
def gtg (fT : Nat → Int32) (n j : Nat) : Nat := (fT (n * 12 + j)).toNatClampNeg
/-- count c states, each an end with goals -2 .. 100, or open with its moves; all targets are states -/
def g_ok (c : Nat) (fO fA fB fT : Nat → Int32) : Prop := 1 ≤ c ∧ c ≤ 60 ∧ ∀ n, n < c → (fO n = 0 ∨ fO n = 1) ∧ (fO n = 0 → -2 ≤ (fA n).toInt ∧ (fA n).toInt ≤ 100 ∧ -2 ≤ (fB n).toInt ∧ (fB n).toInt ≤ 100) ∧ (fO n ≠ 0 → ∃ a b, a ≤ 12 ∧ b ≤ 12 ∧ a * b ≤ 12 ∧ fA n = nI a ∧ fB n = nI b) ∧ ∀ j, j < 12 → ∃ t, t < c ∧ fT (n * 12 + j) = nI t
theorem g_mvI {c : Nat} {fO fA fB fT : Nat → Int32} (h : g_ok c fO fA fB fT) {n : Nat} (hn : n < c) : (if fO n = 0 then (0 : Int32) else fA n * fB n) = nI (gmv fO fA fB n) ∧ gmv fO fA fB n ≤ 12 := by
  unfold gmv
  by_cases h0 : fO n = 0
  · rw [if_pos h0, if_pos h0]; exact ⟨rfl, by omega⟩
  · rw [if_neg h0, if_neg h0]
    obtain ⟨a, b, ha, hb, hab, ea, eb⟩ := (h.2.2 n hn).2.2.1 h0
    rw [ea, eb, pk_mul, nI_clamp (by omega), nI_clamp (by omega)]
    exact ⟨rfl, hab⟩
theorem g_tgI {c : Nat} {fO fA fB fT : Nat → Int32} (h : g_ok c fO fA fB fT) {n j : Nat} (hn : n < c) (hj : j < 12) : fT (n * 12 + j) = nI (gtg fT n j) ∧ gtg fT n j < c := by
  obtain ⟨t, ht, e⟩ := (h.2.2 n hn).2.2.2 j hj
  have hc := h.2.1
  unfold gtg
  rw [e, nI_clamp (by omega)]
  exact ⟨rfl, ht⟩
theorem g_sok {c : Nat} {fO fA fB fT : Nat → Int32} (h : g_ok c fO fA fB fT) : s_ok c (gmv fO fA fB) (gtg fT) :=
  ⟨h.1, fun n hn j hj => (g_tgI h hn (by have := (g_mvI h hn).2; omega)).2⟩
theorem k_b0 {b : Bool} {r : Int32} (h : r = if b = true then 1 else 0) (h0 : r = 0) : b = false := by
  cases b with
  | false => rfl
  | true => rw [if_pos rfl] at h; rw [h] at h0; exact absurd h0 (by decide)
theorem k_b1 {b : Bool} {r : Int32} (h : r = if b = true then 1 else 0) (h0 : ¬ r = 0) : b = true := by
  cases b with
  | true => rfl
  | false => rw [if_neg (by decide)] at h; exact absurd h h0
/-- one more target -/
theorem k_or {E : Nat → Prop} {s : Int64} {t : Nat} (ht : t < 64) {P : Nat → Prop} (h : ∀ m, b_t s m = true ↔ P m) (hE : ∀ m, E m ↔ P m ∨ m = t) : ∀ m, b_t (s ||| ((1 : Int64) <<< ((nI t).toInt64 &&& 63))) m = true ↔ E m := by
  intro m
  rw [b_t_or, b_t_1 ht, Bool.or_eq_true, h m, decide_eq_true_eq, hE m]
/-- Warshall's round, a row -/
theorem k_wk {E : Nat → Nat → Prop} {k m : Nat} : w_pt E (k + 1) k m ↔ w_pt E k k m := by
  constructor
  · rintro (h | ⟨_, h⟩)
    · exact h
    · exact h
  · exact Or.inl
/-- the rows of comesTo in round k, those below n done -/
def g_cr (E : Nat → Nat → Prop) (c k n : Nat) (C : Nat → Int64) : Prop := ∀ a, a < c → ∀ m, b_t (C a) m = true ↔ if a < n then w_pt E (k + 1) a m else w_pt E k a m
theorem g_cr_no {E : Nat → Nat → Prop} {c k n : Nat} {C : Nat → Int64} (h : g_cr E c k n C) (hn : n < c) (hb : b_t (C n) k = false) : g_cr E c k (n + 1) C := by
  intro a ha m
  rw [h a ha m]
  by_cases e : a = n
  · subst e
    rw [if_neg (Nat.lt_irrefl _), if_pos (by omega)]
    constructor
    · exact Or.inl
    · rintro (q | ⟨q, _⟩)
      · exact q
      · have := (h a ha k).mpr (by rw [if_neg (Nat.lt_irrefl _)]; exact q)
        rw [hb] at this; cases this
  · by_cases q : a < n
    · rw [if_pos q, if_pos (by omega)]
    · rw [if_neg q, if_neg (by omega)]
theorem g_cr_yes {E : Nat → Nat → Prop} {c k n : Nat} {C : Nat → Int64} (h : g_cr E c k n C) (hn : n < c) (hk : k < c) (hb : b_t (C n) k = true) : g_cr E c k (n + 1) (vp_updL C n (C n ||| C k)) := by
  have hnk : w_pt E k n k := by
    have := (h n hn k).mp hb
    rwa [if_neg (Nat.lt_irrefl _)] at this
  have hkk : ∀ m, b_t (C k) m = true ↔ w_pt E k k m := fun m => by
    rw [h k hk m]
    by_cases q : k < n
    · rw [if_pos q, k_wk]
    · rw [if_neg q]
  intro a ha m
  by_cases e : a = n
  · subst e
    rw [pk_uLs, b_t_or, Bool.or_eq_true, h a ha m, hkk m, if_neg (Nat.lt_irrefl _), if_pos (by omega)]
    constructor
    · rintro (q | q)
      · exact Or.inl q
      · exact Or.inr ⟨hnk, q⟩
    · rintro (q | ⟨_, q⟩)
      · exact Or.inl q
      · exact Or.inr q
  · rw [pk_uLn e, h a ha m]
    by_cases q : a < n
    · rw [if_pos q, if_pos (by omega)]
    · rw [if_neg q, if_neg (by omega)]
theorem g_cr_next {E : Nat → Nat → Prop} {c k : Nat} {C : Nat → Int64} (h : g_cr E c k c C) : g_cr E c (k + 1) 0 C := by
  intro a ha m
  rw [h a ha m, if_pos ha, if_neg (Nat.not_lt_zero _)]
