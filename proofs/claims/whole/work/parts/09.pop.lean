/-! How many bits: Long.bitCount's sums, byte by byte. -/
def b_ct (g : Nat → Bool) : Nat → Nat
  | 0 => 0
  | k + 1 => b_ct g k + (g k).toNat
theorem b_ct_c {g h : Nat → Bool} : ∀ k, (∀ j, j < k → g j = h j) → b_ct g k = b_ct h k
  | 0, _ => rfl
  | k + 1, q => by unfold b_ct; rw [b_ct_c k (fun j hj => q j (by omega)), q k (by omega)]
theorem b_ct_add (g : Nat → Bool) (k : Nat) : ∀ m, b_ct g (k + m) = b_ct g k + b_ct (fun j => g (k + j)) m
  | 0 => rfl
  | m + 1 => by
    show b_ct g (k + m) + (g (k + m)).toNat = b_ct g k + (b_ct (fun j => g (k + j)) m + (g (k + m)).toNat)
    rw [b_ct_add g k m]; omega
theorem b_ct_0 {g : Nat → Bool} : ∀ k, (∀ j, j < k → g j = false) → b_ct g k = 0
  | 0, _ => rfl
  | k + 1, q => by unfold b_ct; rw [b_ct_0 k (fun j hj => q j (by omega)), q k (by omega)]; rfl
theorem b_ct_le (g : Nat → Bool) : ∀ k, b_ct g k ≤ k
  | 0 => Nat.le_refl _
  | k + 1 => by
    have := b_ct_le g k
    unfold b_ct
    cases g k <;> simp <;> omega
theorem p_tb (q : Nat) {b : Nat} (hb : b < 256) (j : Nat) : (256 * q + b).testBit j = if j < 8 then b.testBit j else q.testBit (j - 8) := Nat.testBit_two_pow_mul_add (i := 8) q hb j
theorem p_and {a p c r : Nat} (ha : a < 256) (hc : c < 256) : (256 * p + a) &&& (256 * r + c) = 256 * (p &&& r) + (a &&& c) := by
  have hac : a &&& c < 256 := Nat.and_lt_two_pow (n := 8) a hc
  apply Nat.eq_of_testBit_eq
  intro j
  rw [Nat.testBit_and, p_tb p ha, p_tb r hc, p_tb (p &&& r) hac]
  by_cases h : j < 8
  · rw [if_pos h, if_pos h, if_pos h, Nat.testBit_and]
  · rw [if_neg h, if_neg h, if_neg h, Nat.testBit_and]
theorem p_t1 : ∀ b, b < 256 → ∀ t, t < 2 → (b / 2 + 128 * t) &&& 85 = (b / 2) &&& 85 := by decide +kernel
theorem p_t2 : ∀ b, b < 256 → ∀ t, t < 4 → (b / 4 + 64 * t) &&& 51 = (b / 4) &&& 51 := by decide +kernel
def p_1 (b : Nat) : Nat := b - (b / 2 &&& 85)
def p_2 (b : Nat) : Nat := (p_1 b &&& 51) + (p_1 b / 4 &&& 51)
def p_3 (b : Nat) : Nat := (p_2 b + p_2 b / 16) &&& 15
theorem p_b1 : ∀ b, b < 256 → p_1 b < 256 ∧ (b / 2 &&& 85) ≤ b := by decide +kernel
theorem p_b2 : ∀ b, b < 256 → p_2 b < 256 ∧ p_2 b / 16 ≤ 4 ∧ p_2 b % 16 ≤ 4 := by decide +kernel
theorem p_b3 : ∀ b, b < 256 → p_3 b = b_ct b.testBit 8 ∧ p_3 b ≤ 8 := by decide +kernel
theorem p_m4 : ∀ x, x < 256 → ∀ t, t < 5 → x % 16 ≤ 4 → x / 16 ≤ 4 → (x + x / 16 + 16 * t) &&& 15 = (x + x / 16) &&& 15 := by decide +kernel
theorem p_s1 {b q M : Nat} (hb : b < 256) : (256 * q + b) / 2 &&& (256 * M + 85) = 256 * (q / 2 &&& M) + (b / 2 &&& 85) := by
  have e : (256 * q + b) / 2 = 256 * (q / 2) + (b / 2 + 128 * (q % 2)) := by omega
  rw [e, p_and (by omega) (by decide), p_t1 b hb _ (Nat.mod_lt _ (by decide))]
theorem p_s2 {b q M : Nat} (hb : b < 256) : (256 * q + b) / 4 &&& (256 * M + 51) = 256 * (q / 4 &&& M) + (b / 4 &&& 51) := by
  have e : (256 * q + b) / 4 = 256 * (q / 4) + (b / 4 + 64 * (q % 4)) := by omega
  rw [e, p_and (by omega) (by decide), p_t2 b hb _ (Nat.mod_lt _ (by decide))]
/-- masks of k bytes -/
def p_M (c : Nat) : Nat → Nat
  | 0 => 0
  | k + 1 => 256 * p_M c k + c
def p_F1 (k n : Nat) : Nat := n - (n / 2 &&& p_M 85 k)
def p_F2 (k n : Nat) : Nat := (n &&& p_M 51 k) + (n / 4 &&& p_M 51 k)
def p_F3 (k n : Nat) : Nat := (n + n / 16) &&& p_M 15 k
/-- a number of k bytes, each by f -/
def p_by (f : Nat → Nat) : Nat → Nat → Nat
  | 0, _ => 0
  | k + 1, n => 256 * p_by f k (n / 256) + f (n % 256)
theorem p_F1_by : ∀ k n, n < 256 ^ k → p_F1 k n = p_by p_1 k n ∧ (n / 2 &&& p_M 85 k) ≤ n
  | 0, n, h => by
    have : n = 0 := by simpa using h
    subst this; decide
  | k + 1, n, h => by
    have hq : n / 256 < 256 ^ k := by rw [Nat.div_lt_iff_lt_mul (by decide)]; rw [Nat.pow_succ] at h; exact h
    obtain ⟨i1, i2⟩ := p_F1_by k (n / 256) hq
    have hb : n % 256 < 256 := Nat.mod_lt _ (by decide)
    have e : n = 256 * (n / 256) + n % 256 := by omega
    have s : n / 2 &&& p_M 85 (k + 1) = 256 * (n / 256 / 2 &&& p_M 85 k) + (n % 256 / 2 &&& 85) := by
      conv => lhs; rw [e]
      exact p_s1 hb
    obtain ⟨b1, b2⟩ := p_b1 _ hb
    unfold p_F1 at i1 ⊢
    unfold p_by
    rw [s]
    unfold p_1 at i1 ⊢
    generalize n / 256 / 2 &&& p_M 85 k = X at *
    generalize n % 256 / 2 &&& 85 = Y at *
    refine ⟨?_, by omega⟩
    rw [← i1]
    omega
theorem p_F2_by : ∀ k n, n < 256 ^ k → p_F2 k (p_by p_1 k n) = p_by p_2 k n
  | 0, n, h => by simp [p_F2, p_by, p_M]
  | k + 1, n, h => by
    have hq : n / 256 < 256 ^ k := by rw [Nat.div_lt_iff_lt_mul (by decide)]; rw [Nat.pow_succ] at h; exact h
    have i1 := p_F2_by k (n / 256) hq
    have hb : n % 256 < 256 := Nat.mod_lt _ (by decide)
    obtain ⟨b1, -⟩ := p_b1 _ hb
    unfold p_F2 at i1 ⊢
    show (256 * p_by p_1 k (n / 256) + p_1 (n % 256) &&& (256 * p_M 51 k + 51)) + ((256 * p_by p_1 k (n / 256) + p_1 (n % 256)) / 4 &&& (256 * p_M 51 k + 51)) = 256 * p_by p_2 k (n / 256) + p_2 (n % 256)
    rw [p_s2 b1, p_and b1 (by decide), ← i1]
    unfold p_2
    omega
theorem p_F3_by : ∀ k n, n < 256 ^ k → p_F3 k (p_by p_2 k n) = p_by p_3 k n ∧ p_by p_2 k n % 16 ≤ 4
  | 0, n, h => by simp [p_F3, p_by, p_M]
  | k + 1, n, h => by
    have hq : n / 256 < 256 ^ k := by rw [Nat.div_lt_iff_lt_mul (by decide)]; rw [Nat.pow_succ] at h; exact h
    obtain ⟨i1, i2⟩ := p_F3_by k (n / 256) hq
    have hb : n % 256 < 256 := Nat.mod_lt _ (by decide)
    obtain ⟨b1, b2, b3⟩ := p_b2 _ hb
    unfold p_F3 at i1 ⊢
    show (256 * p_by p_2 k (n / 256) + p_2 (n % 256) + (256 * p_by p_2 k (n / 256) + p_2 (n % 256)) / 16 &&& (256 * p_M 15 k + 15)) = 256 * p_by p_3 k (n / 256) + p_3 (n % 256) ∧ (256 * p_by p_2 k (n / 256) + p_2 (n % 256)) % 16 ≤ 4
    refine ⟨?_, by omega⟩
    have e : 256 * p_by p_2 k (n / 256) + p_2 (n % 256) + (256 * p_by p_2 k (n / 256) + p_2 (n % 256)) / 16 = 256 * (p_by p_2 k (n / 256) + p_by p_2 k (n / 256) / 16) + (p_2 (n % 256) + p_2 (n % 256) / 16 + 16 * (p_by p_2 k (n / 256) % 16)) := by omega
    rw [e, p_and (by omega) (by decide), p_m4 _ b1 _ (by omega) b3 b2, i1]
    rfl
theorem p_ct : ∀ k n, n < 256 ^ k → ∃ l : List Nat, l.length = k ∧ (∀ x ∈ l, x ≤ 8) ∧ p_by p_3 k n = l.foldr (fun x a => 256 * a + x) 0 ∧ l.foldr (fun x a => a + x) 0 = b_ct n.testBit (8 * k)
  | 0, n, h => ⟨[], rfl, (fun x hx => absurd hx List.not_mem_nil), rfl, rfl⟩
  | k + 1, n, h => by
    have hq : n / 256 < 256 ^ k := by rw [Nat.div_lt_iff_lt_mul (by decide)]; rw [Nat.pow_succ] at h; exact h
    obtain ⟨l, l1, l2, l3, l4⟩ := p_ct k (n / 256) hq
    have hb : n % 256 < 256 := Nat.mod_lt _ (by decide)
    obtain ⟨b1, b2⟩ := p_b3 _ hb
    refine ⟨p_3 (n % 256) :: l, by simp [l1], ?_, ?_, ?_⟩
    · intro x hx
      rcases List.mem_cons.mp hx with e | e
      · rw [e]; exact b2
      · exact l2 x e
    · show 256 * p_by p_3 k (n / 256) + p_3 (n % 256) = _
      rw [l3]; rfl
    · show l.foldr (fun x a => a + x) 0 + p_3 (n % 256) = _
      rw [l4, b1, show 8 * (k + 1) = 8 + 8 * k by omega, b_ct_add]
      have e : n = 256 * (n / 256) + n % 256 := by omega
      have c1 : b_ct (n % 256).testBit 8 = b_ct n.testBit 8 := b_ct_c 8 (fun j hj => by
        conv => rhs; rw [e]
        rw [p_tb _ hb, if_pos hj])
      have c2 : b_ct (n / 256).testBit (8 * k) = b_ct (fun j => n.testBit (8 + j)) (8 * k) := b_ct_c _ (fun j hj => by
        show _ = n.testBit (8 + j)
        conv => rhs; rw [e]
        rw [p_tb _ hb, if_neg (by omega)]
        congr 1; omega)
      rw [c1, c2]; omega
theorem p_8 {l : List Nat} (h : l.length = 8) : ∃ a b c d e f g k, l = [a, b, c, d, e, f, g, k] := by
  rcases l with _ | ⟨a, l⟩
  · simp at h
  rcases l with _ | ⟨b, l⟩
  · simp at h
  rcases l with _ | ⟨c, l⟩
  · simp at h
  rcases l with _ | ⟨d, l⟩
  · simp at h
  rcases l with _ | ⟨e, l⟩
  · simp at h
  rcases l with _ | ⟨f, l⟩
  · simp at h
  rcases l with _ | ⟨g, l⟩
  · simp at h
  rcases l with _ | ⟨k, l⟩
  · simp at h
  cases l with
  | nil => exact ⟨a, b, c, d, e, f, g, k, rfl⟩
  | cons x l => simp at h
theorem p_d1 {y q r : Nat} (h : y = 256 * q + r) (hr : r < 256) : y / 256 = q := by omega
theorem p_d2 {y q r : Nat} (h : y = 65536 * q + r) (hr : r < 65536) : y / 65536 = q := by omega
theorem p_d4 {y q r : Nat} (h : y = 4294967296 * q + r) (hr : r < 4294967296) : y / 4294967296 = q := by omega
theorem p_d7 {y q r : Nat} (h : y = 256 * q + r) (hr : r < 128) : y % 128 = r := by omega
theorem p_fin (l : List Nat) (hl : l.length = 8) (hx : ∀ x ∈ l, x ≤ 8) (y : Nat) (ey : y = l.foldr (fun x a => 256 * a + x) 0) : y < 2 ^ 60 ∧ (∀ y4, y4 = y + y / 256 → ∀ y5, y5 = y4 + y4 / 65536 → y4 < 2 ^ 61 ∧ y5 < 2 ^ 62 ∧ ∀ y6, y6 = y5 + y5 / 4294967296 → y6 < 2 ^ 63 ∧ y6 % 128 = l.foldr (fun x a => a + x) 0) := by
  obtain ⟨a, b, c, d, e, f, g, h, rfl⟩ := p_8 hl
  have h1 := hx a (by simp)
  have h2 := hx b (by simp)
  have h3 := hx c (by simp)
  have h4 := hx d (by simp)
  have h5 := hx e (by simp)
  have h6 := hx f (by simp)
  have h7 := hx g (by simp)
  have h8 := hx h (by simp)
  clear hx hl
  simp only [List.foldr] at ey ⊢
  have ey : y = a + 256 * b + 65536 * c + 16777216 * d + 4294967296 * e + 1099511627776 * f + 281474976710656 * g + 72057594037927936 * h := by omega
  have d1 : y / 256 = b + 256 * c + 65536 * d + 16777216 * e + 4294967296 * f + 1099511627776 * g + 281474976710656 * h := p_d1 (r := a) (by omega) (by omega)
  refine ⟨by omega, fun y4 e4 y5 e5 => ?_⟩
  rw [d1] at e4
  have d2 : y4 / 65536 = (c + d) + 256 * (d + e) + 65536 * (e + f) + 16777216 * (f + g) + 4294967296 * (g + h) + 1099511627776 * h := p_d2 (r := (a + b) + 256 * (b + c)) (by omega) (by omega)
  rw [d2] at e5
  refine ⟨by omega, by omega, fun y6 e6 => ?_⟩
  have d4 : y5 / 4294967296 = (e + f + g + h) + 256 * (f + g + h) + 65536 * (g + h) + 16777216 * h := p_d4 (r := (a + b + c + d) + 256 * (b + c + d + e) + 65536 * (c + d + e + f) + 16777216 * (d + e + f + g)) (by omega) (by omega)
  rw [d4] at e6
  refine ⟨by omega, ?_⟩
  have s : (((((((0 + h) + g) + f) + e) + d) + c) + b) + a = a + b + c + d + e + f + g + h := by omega
  rw [s]
  exact p_d7 (q := (b + c + d + e) + 256 * (c + d + e + f) + 65536 * (d + e + f + g) + 16777216 * (e + f + g + h) + 4294967296 * (f + g + h) + 1099511627776 * (g + h) + 281474976710656 * h + (f + g + h) + 256 * (g + h) + 65536 * h) (by omega) (by omega)
