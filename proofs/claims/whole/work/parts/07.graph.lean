/-! The graph of a game: states below c, mv n joint moves of state n, tg n j where move j goes to. -/
def s_ed (mv : Nat → Nat) (tg : Nat → Nat → Nat) (n m : Nat) : Prop := ∃ j, j < mv n ∧ tg n j = m
/-- state n comes to m -/
def s_to (c : Nat) (mv : Nat → Nat) (tg : Nat → Nat → Nat) (n m : Nat) : Prop := w_pt (s_ed mv tg) c n m
def s_re (c : Nat) (mv : Nat → Nat) (tg : Nat → Nat → Nat) (n : Nat) : Prop := n = 0 ∨ s_to c mv tg 0 n
/-- every move of a state goes to a state -/
def s_ok (c : Nat) (mv : Nat → Nat) (tg : Nat → Nat → Nat) : Prop := 0 < c ∧ ∀ n, n < c → ∀ j, j < mv n → tg n j < c
/-- no reached state comes to itself again -/
def s_ac (c : Nat) (mv : Nat → Nat) (tg : Nat → Nat → Nat) : Prop := ∀ n, s_re c mv tg n → ¬ s_to c mv tg n n
theorem s_to_lt {c : Nat} {mv : Nat → Nat} {tg : Nat → Nat → Nat} (h : s_ok c mv tg) {n m : Nat} (hn : n < c) (ht : s_to c mv tg n m) : m < c :=
  w_in (X := fun a b => a < c → b < c) (fun a b ⟨j, hj, e⟩ ha => e ▸ h.2 a ha j hj) (fun _ _ _ p q ha => q (p ha)) c n m ht hn
theorem s_re_lt {c : Nat} {mv : Nat → Nat} {tg : Nat → Nat → Nat} (h : s_ok c mv tg) {n : Nat} (hn : s_re c mv tg n) : n < c := by
  rcases hn with e | ht
  · rw [e]; exact h.1
  · exact s_to_lt h h.1 ht
theorem s_to_ed {c : Nat} {mv : Nat → Nat} {tg : Nat → Nat → Nat} {n j : Nat} (hj : j < mv n) : s_to c mv tg n (tg n j) := w_up c ⟨j, hj, rfl⟩
theorem s_re_to {c : Nat} {mv : Nat → Nat} {tg : Nat → Nat → Nat} (h : s_ok c mv tg) {n m : Nat} (hn : s_re c mv tg n) (ht : s_to c mv tg n m) : s_re c mv tg m := by
  have hl := s_re_lt h hn
  rcases hn with e | h0
  · subst e; exact Or.inr ht
  · exact Or.inr (w_tr c n 0 m hl h0 ht)
theorem s_re_ed {c : Nat} {mv : Nat → Nat} {tg : Nat → Nat → Nat} (h : s_ok c mv tg) {n j : Nat} (hn : s_re c mv tg n) (hj : j < mv n) : s_re c mv tg (tg n j) := s_re_to h hn (s_to_ed hj)
noncomputable def s_rk (c : Nat) (mv : Nat → Nat) (tg : Nat → Nat → Nat) (n : Nat) : Nat := w_rk (s_ed mv tg) c n
theorem s_rk_c {c : Nat} {mv : Nat → Nat} {tg : Nat → Nat → Nat} (h : s_ok c mv tg) (ha : s_ac c mv tg) {n : Nat} (hn : s_re c mv tg n) : s_rk c mv tg n < c := w_rk_c (s_re_lt h hn) (ha n hn)
theorem s_rk_lt {c : Nat} {mv : Nat → Nat} {tg : Nat → Nat → Nat} (h : s_ok c mv tg) (ha : s_ac c mv tg) {n j : Nat} (hn : s_re c mv tg n) (hj : j < mv n) : s_rk c mv tg (tg n j) < s_rk c mv tg n :=
  w_rk_lt ⟨j, hj, rfl⟩ (s_re_lt h (s_re_ed h hn hj)) (ha _ (s_re_ed h hn hj))
/-- lengths -/
def w_nx (g : Nat → Nat) : Nat → Nat
  | 0 => 0
  | k + 1 => max (w_nx g k) (g k)
theorem w_nx_c {g h : Nat → Nat} : ∀ k, (∀ j, j < k → g j = h j) → w_nx g k = w_nx h k
  | 0, _ => rfl
  | k + 1, q => by unfold w_nx; rw [w_nx_c k (fun j hj => q j (by omega)), q k (by omega)]
theorem w_nx_le {g : Nat → Nat} {b : Nat} : ∀ k, (∀ j, j < k → g j ≤ b) → w_nx g k ≤ b
  | 0, _ => Nat.zero_le _
  | k + 1, q => by have h1 := w_nx_le k (fun j hj => q j (by omega)); have h2 := q k (by omega); unfold w_nx; omega
theorem w_nx_ge {g : Nat → Nat} : ∀ k j, j < k → g j ≤ w_nx g k
  | 0, j, h => absurd h (Nat.not_lt_zero _)
  | k + 1, j, h => by
    unfold w_nx
    rcases Nat.lt_or_ge j k with q | q
    · have := w_nx_ge (g := g) k j q; omega
    · have e : j = k := by omega
      subst e; omega
def s_len (mv : Nat → Nat) (tg : Nat → Nat → Nat) : Nat → Nat → Nat
  | 0, _ => 0
  | f + 1, n => w_nx (fun j => s_len mv tg f (tg n j) + 1) (mv n)
theorem s_len_st {c : Nat} {mv : Nat → Nat} {tg : Nat → Nat → Nat} (h : s_ok c mv tg) (ha : s_ac c mv tg) : ∀ f n, s_re c mv tg n → s_rk c mv tg n < f → ∀ f', s_rk c mv tg n < f' → s_len mv tg f n = s_len mv tg f' n := by
  intro f
  induction f with
  | zero => intro n _ h0; exact absurd h0 (Nat.not_lt_zero _)
  | succ f ih =>
    intro n hn hf f' hf'
    cases f' with
    | zero => exact absurd hf' (Nat.not_lt_zero _)
    | succ g =>
      unfold s_len
      refine w_nx_c _ (fun j hj => ?_)
      have hr := s_rk_lt h ha hn hj
      show s_len mv tg f (tg n j) + 1 = s_len mv tg g (tg n j) + 1
      rw [ih (tg n j) (s_re_ed h hn hj) (by omega) g (by omega)]
theorem s_len_eq {c : Nat} {mv : Nat → Nat} {tg : Nat → Nat → Nat} (h : s_ok c mv tg) (ha : s_ac c mv tg) {n : Nat} (hn : s_re c mv tg n) : s_len mv tg c n = w_nx (fun j => s_len mv tg c (tg n j) + 1) (mv n) := by
  have hr := s_rk_c h ha hn
  rw [s_len_st h ha c n hn hr (c + 1) (by omega)]
  rfl
theorem s_len_rk {c : Nat} {mv : Nat → Nat} {tg : Nat → Nat → Nat} (h : s_ok c mv tg) (ha : s_ac c mv tg) : ∀ r n, s_re c mv tg n → s_rk c mv tg n ≤ r → s_len mv tg c n ≤ s_rk c mv tg n := by
  intro r
  induction r with
  | zero =>
    intro n hn h0
    rw [s_len_eq h ha hn]
    refine w_nx_le _ (fun j hj => ?_)
    have := s_rk_lt h ha hn hj
    omega
  | succ r ih =>
    intro n hn h0
    rw [s_len_eq h ha hn]
    refine w_nx_le _ (fun j hj => ?_)
    have h1 := s_rk_lt h ha hn hj
    have h2 := ih (tg n j) (s_re_ed h hn hj) (by omega)
    omega
theorem s_len_c {c : Nat} {mv : Nat → Nat} {tg : Nat → Nat → Nat} (h : s_ok c mv tg) (ha : s_ac c mv tg) {n : Nat} (hn : s_re c mv tg n) : s_len mv tg c n < c :=
  Nat.lt_of_le_of_lt (s_len_rk h ha _ n hn (Nat.le_refl _)) (s_rk_c h ha hn)
theorem s_len_ed {c : Nat} {mv : Nat → Nat} {tg : Nat → Nat → Nat} (h : s_ok c mv tg) (ha : s_ac c mv tg) {n j : Nat} (hn : s_re c mv tg n) (hj : j < mv n) : s_len mv tg c (tg n j) < s_len mv tg c n := by
  rw [s_len_eq h ha hn]
  exact w_nx_ge (g := fun j => s_len mv tg c (tg n j) + 1) _ j hj
theorem s_len_to {c : Nat} {mv : Nat → Nat} {tg : Nat → Nat → Nat} (h : s_ok c mv tg) (ha : s_ac c mv tg) {n m : Nat} (hn : s_re c mv tg n) (ht : s_to c mv tg n m) : s_len mv tg c m < s_len mv tg c n :=
  (w_in (X := fun a b => s_re c mv tg a → s_re c mv tg b ∧ s_len mv tg c b < s_len mv tg c a)
    (fun a b ⟨j, hj, e⟩ ha' => by subst e; exact ⟨s_re_ed h ha' hj, s_len_ed h ha ha' hj⟩)
    (fun x y z p q hx => ⟨(q (p hx).1).1, Nat.lt_trans (q (p hx).1).2 (p hx).2⟩) c n m ht hn).2
/-- a state's length is at most r just when all that it comes to has a lesser one than r -/
theorem s_len_iff {c : Nat} {mv : Nat → Nat} {tg : Nat → Nat → Nat} (h : s_ok c mv tg) (ha : s_ac c mv tg) {n r : Nat} (hn : s_re c mv tg n) : (∀ m, s_to c mv tg n m → s_len mv tg c m < r) ↔ s_len mv tg c n ≤ r := by
  constructor
  · intro q
    rw [s_len_eq h ha hn]
    exact w_nx_le _ (fun j hj => q _ (s_to_ed hj))
  · intro q m hm
    exact Nat.lt_of_lt_of_le (s_len_to h ha hn hm) q
/-- values: fi n: the first player has more than one move there; go n: an end's first goal -/
def s_val (mv : Nat → Nat) (tg : Nat → Nat → Nat) (fi : Nat → Bool) (go : Nat → Int) : Nat → Nat → Int
  | 0, _ => 0
  | f + 1, n => if mv n = 0 then go n else if fi n then w_mx (fun j => s_val mv tg fi go f (tg n j)) (mv n) else w_mn (fun j => s_val mv tg fi go f (tg n j)) (mv n)
theorem s_val_st {c : Nat} {mv : Nat → Nat} {tg : Nat → Nat → Nat} {fi : Nat → Bool} {go : Nat → Int} (h : s_ok c mv tg) (ha : s_ac c mv tg) : ∀ f n, s_re c mv tg n → s_rk c mv tg n < f → ∀ f', s_rk c mv tg n < f' → s_val mv tg fi go f n = s_val mv tg fi go f' n := by
  intro f
  induction f with
  | zero => intro n _ h0; exact absurd h0 (Nat.not_lt_zero _)
  | succ f ih =>
    intro n hn hf f' hf'
    cases f' with
    | zero => exact absurd hf' (Nat.not_lt_zero _)
    | succ g =>
      have q : ∀ j, j < mv n → s_val mv tg fi go f (tg n j) = s_val mv tg fi go g (tg n j) := fun j hj => by
        have hr := s_rk_lt h ha hn hj
        exact ih (tg n j) (s_re_ed h hn hj) (by omega) g (by omega)
      unfold s_val
      rw [w_mx_c _ q, w_mn_c _ q]
theorem s_val_eq {c : Nat} {mv : Nat → Nat} {tg : Nat → Nat → Nat} {fi : Nat → Bool} {go : Nat → Int} (h : s_ok c mv tg) (ha : s_ac c mv tg) {n : Nat} (hn : s_re c mv tg n) :
    s_val mv tg fi go c n = if mv n = 0 then go n else if fi n then w_mx (fun j => s_val mv tg fi go c (tg n j)) (mv n) else w_mn (fun j => s_val mv tg fi go c (tg n j)) (mv n) := by
  have hr := s_rk_c h ha hn
  rw [s_val_st h ha c n hn hr (c + 1) (by omega)]
  rfl
/-- goals of reached ends are 0 .. 100 -/
def s_go (c : Nat) (mv : Nat → Nat) (tg : Nat → Nat → Nat) (go : Nat → Int) : Prop := ∀ n, s_re c mv tg n → mv n = 0 → 0 ≤ go n ∧ go n ≤ 100
theorem s_val_b {c : Nat} {mv : Nat → Nat} {tg : Nat → Nat → Nat} {fi : Nat → Bool} {go : Nat → Int} (h : s_ok c mv tg) (hg : s_go c mv tg go) : ∀ f n, s_re c mv tg n → 0 ≤ s_val mv tg fi go f n ∧ s_val mv tg fi go f n ≤ 100 := by
  intro f
  induction f with
  | zero => intro n _; unfold s_val; omega
  | succ f ih =>
    intro n hn
    unfold s_val
    by_cases h0 : mv n = 0
    · rw [if_pos h0]; exact hg n hn h0
    · rw [if_neg h0]
      have q : ∀ j, j < mv n → 0 ≤ s_val mv tg fi go f (tg n j) ∧ s_val mv tg fi go f (tg n j) ≤ 100 := fun j hj => ih _ (s_re_ed h hn hj)
      by_cases hf : fi n = true
      · rw [if_pos hf]
        exact ⟨w_mx_0 _ _, w_mx_le (by omega) _ (fun j hj => (q j hj).2)⟩
      · rw [if_neg hf]
        exact ⟨w_mn_ge (by omega) _ (fun j hj => (q j hj).1), w_mn_100 _ _⟩
