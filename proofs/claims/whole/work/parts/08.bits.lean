/-! Bits of a long: b_t w j. (ts_bit: after the kit's BITS.to-paste.) -/
def b_t (w : Int64) (j : Nat) : Bool := w.toBitVec.getLsbD j
theorem b_t_or (x y : Int64) (j : Nat) : b_t (x ||| y) j = (b_t x j || b_t y j) := by
  unfold b_t
  rw [Int64.toBitVec_or, BitVec.getLsbD_or]
theorem b_t_0 (j : Nat) : b_t 0 j = false := by
  show (0#64).getLsbD j = false
  exact BitVec.getLsbD_zero
theorem b_t_big {w : Int64} {j : Nat} (h : 64 ≤ j) : b_t w j = false := BitVec.getLsbD_of_ge w.toBitVec j h
theorem b_t_ext {x y : Int64} (h : ∀ j, j < 64 → b_t x j = b_t y j) : x = y := Int64.toBitVec_inj.mp (BitVec.eq_of_getLsbD_eq (fun i hi => h i hi))
theorem b_t_sh : ∀ t, t < 64 → ((1 : Int64) <<< ((nI t).toInt64 &&& 63)).toBitVec = BitVec.twoPow 64 t := by decide +kernel
theorem b_t_1 {t : Nat} (ht : t < 64) (j : Nat) : b_t ((1 : Int64) <<< ((nI t).toInt64 &&& 63)) j = decide (j = t) := by
  unfold b_t
  rw [b_t_sh t ht, BitVec.getLsbD_twoPow]
  by_cases h : t = j
  · subst h; simp [ht]
  · have h' : ¬ j = t := fun e => h e.symm
    simp [h, h']
theorem b_t_one (j : Nat) : b_t 1 j = decide (j = 0) := by
  have h := b_t_1 (t := 0) (by omega) j
  have e : (1 : Int64) <<< ((nI 0).toInt64 &&& 63) = 1 := by decide +kernel
  rw [e] at h
  exact h
theorem b_t_cu : ∀ k, k < 64 → ((nI k).toInt64.toUInt64 &&& Int64.toUInt64 63).toNat = k := by decide +kernel
theorem b_t_has {w : Int64} {k : Nat} (hk : k < 64) : ((w.toUInt64 >>> ((nI k).toInt64.toUInt64 &&& Int64.toUInt64 63)).toInt64 &&& 1) = 0 ↔ b_t w k = false := by
  have hs := b_t_cu k hk
  generalize (nI k).toInt64.toUInt64 &&& Int64.toUInt64 63 = s at hs
  have e : (w.toUInt64 >>> s).toInt64.toBitVec = w.toBitVec >>> k := by
    apply BitVec.eq_of_toNat_eq
    show (w.toUInt64 >>> s).toNat = _
    rw [UInt64.toNat_shiftRight, hs, Nat.mod_eq_of_lt hk, BitVec.toNat_ushiftRight]
    rfl
  rw [← Int64.toBitVec_inj, Int64.toBitVec_and, e]
  show w.toBitVec >>> k &&& 1#64 = 0#64 ↔ w.toBitVec.getLsbD k = false
  constructor
  · intro h
    have t := congrArg (fun x => x.getLsbD 0) h
    simpa using t
  · intro h
    apply BitVec.eq_of_getLsbD_eq
    intro i hi
    rcases Nat.eq_zero_or_pos i with z | z
    · subst z
      simpa using h
    · simp only [BitVec.getLsbD_and, BitVec.getLsbD_zero]
      have : (1#64).getLsbD i = false := by
        have q : i ≠ 0 := by omega
        simp [q]
      rw [this, Bool.and_false]
theorem b_t_sub (x y : Int64) : (x &&& (y ^^^ (-1))) = 0 ↔ ∀ j, j < 64 → b_t x j = true → b_t y j = true := by
  have e1 : ∀ j, j < 64 → b_t (x &&& (y ^^^ (-1))) j = (b_t x j && !b_t y j) := by
    intro j hj
    unfold b_t
    rw [Int64.toBitVec_and, Int64.toBitVec_xor, BitVec.getLsbD_and, BitVec.getLsbD_xor]
    have : (-1 : Int64).toBitVec = BitVec.allOnes 64 := by decide
    rw [this, BitVec.getLsbD_allOnes]
    simp [hj]
  constructor
  · intro h j hj hx
    have := e1 j hj
    rw [h, b_t_0, hx] at this
    cases hy : b_t y j with
    | true => rfl
    | false => rw [hy] at this; cases this
  · intro h
    apply b_t_ext
    intro j hj
    rw [e1 j hj, b_t_0]
    cases hx : b_t x j with
    | false => rfl
    | true => rw [h j hj hx]; rfl
theorem b_cmp0 (x : Int64) : lg_cmp x 0 = 0 ↔ x = 0 := by
  unfold lg_cmp
  constructor
  · intro h
    by_cases h1 : x > 0
    · rw [if_pos h1] at h; exact absurd h (by decide)
    · rw [if_neg h1] at h
      by_cases h2 : x = 0
      · exact h2
      · rw [if_neg h2] at h; exact absurd h (by decide)
  · intro h
    subst h
    decide
