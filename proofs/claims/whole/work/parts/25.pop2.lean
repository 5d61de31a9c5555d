/-! Long.bitCount, and reached(). (wb_, u_tn, g_and, g_ushr: rows of the kit's BITS.to-paste.) -/
theorem wb_tb (n : Nat) : (lN n).toBitVec = BitVec.ofNat 64 n := rfl
theorem wb_inj {a b : Int64} (h : a.toBitVec = b.toBitVec) : a = b := Int64.toBitVec_inj.mp h
theorem wb_tn {n : Nat} (h : n < 2 ^ 64) : (lN n).toBitVec.toNat = n := by rw [wb_tb, BitVec.toNat_ofNat, Nat.mod_eq_of_lt h]
theorem wb_of (x : Int64) : ∃ n, n < 2 ^ 64 ∧ x = lN n := ⟨x.toBitVec.toNat, x.toBitVec.isLt, wb_inj (by rw [wb_tb]; simp)⟩
theorem u_tn {n : Nat} (h : n < 2 ^ 64) : (UInt64.ofNat n).toNat = n := Nat.mod_eq_of_lt h
theorem g_and {a b c : Nat} (ha : a < 2 ^ 64) (hb : b < 2 ^ 64) (hc : a &&& b = c) : lN a &&& lN b = lN c := by
  subst hc
  have h : UInt64.ofNat a &&& UInt64.ofNat b = UInt64.ofNat (a &&& b) := UInt64.toNat_inj.mp (by rw [UInt64.toNat_and, u_tn ha, u_tn hb, u_tn (Nat.and_lt_two_pow a hb)])
  have h2 := congrArg UInt64.toInt64 h
  exact h2
theorem g_ushr {a k p : Nat} {y : UInt64} (hy : y = UInt64.ofNat k) (hk : k < 64) (hp : 2 ^ k = p) (ha : a < 2 ^ 64) : ((lN a).toUInt64 >>> y).toInt64 = lN (a / p) := by
  subst hy hp
  have h : UInt64.ofNat a >>> UInt64.ofNat k = UInt64.ofNat (a / 2 ^ k) := UInt64.toNat_inj.mp (by rw [UInt64.toNat_shiftRight, u_tn ha, u_tn (by omega), u_tn (Nat.lt_of_le_of_lt (Nat.div_le_self _ _) ha), Nat.mod_eq_of_lt hk, Nat.shiftRight_eq_div_pow])
  have h2 := congrArg UInt64.toInt64 h
  exact h2
theorem p_by_le {f : Nat → Nat} {c : Nat} (h : ∀ b, b < 256 → f b ≤ c) : ∀ k n, p_by f k n ≤ p_M c k
  | 0, _ => Nat.le_refl _
  | k + 1, n => by
    have h1 := p_by_le h k (n / 256)
    have h2 := h (n % 256) (Nat.mod_lt _ (by decide))
    show 256 * p_by f k (n / 256) + f (n % 256) ≤ 256 * p_M c k + c
    omega
theorem p_l1 : ∀ b, b < 256 → p_1 b ≤ 255 := by decide +kernel
theorem p_l2 : ∀ b, b < 256 → p_2 b ≤ 68 := by decide +kernel
theorem p_bt {n j : Nat} (hj : j < 64) : b_t (lN n) j = n.testBit j := by
  unfold b_t
  rw [wb_tb, BitVec.getLsbD_ofNat]
  simp [hj]
set_option maxRecDepth 20000 in
theorem k_pop {x v1 v2 v3 v4 v5 v6 : Int64} (e1 : v1 = x - ((x.toUInt64 >>> ((1 : Int32).toInt64.toUInt64 &&& Int64.toUInt64 63)).toInt64 &&& 6148914691236517205))
    (e2 : v2 = (v1 &&& 3689348814741910323) + ((v1.toUInt64 >>> ((2 : Int32).toInt64.toUInt64 &&& Int64.toUInt64 63)).toInt64 &&& 3689348814741910323))
    (e3 : v3 = (v2 + (v2.toUInt64 >>> ((4 : Int32).toInt64.toUInt64 &&& Int64.toUInt64 63)).toInt64) &&& 1085102592571150095)
    (e4 : v4 = v3 + (v3.toUInt64 >>> ((8 : Int32).toInt64.toUInt64 &&& Int64.toUInt64 63)).toInt64) (e5 : v5 = v4 + (v4.toUInt64 >>> ((16 : Int32).toInt64.toUInt64 &&& Int64.toUInt64 63)).toInt64) (e6 : v6 = v5 + (v5.toUInt64 >>> ((32 : Int32).toInt64.toUInt64 &&& Int64.toUInt64 63)).toInt64) :
    v6.toInt32 &&& 127 = nI (b_ct (b_t x) 64) := by
  obtain ⟨n, hn, rfl⟩ := wb_of x
  have m1 : (6148914691236517205 : Int64) = lN (p_M 85 8) := by decide +kernel
  have m2 : (3689348814741910323 : Int64) = lN (p_M 51 8) := by decide +kernel
  have m3 : (1085102592571150095 : Int64) = lN (p_M 15 8) := by decide +kernel
  have b85 : p_M 85 8 < 2 ^ 64 := by decide +kernel
  have b51 : p_M 51 8 < 2 ^ 64 := by decide +kernel
  have b15 : p_M 15 8 < 2 ^ 64 := by decide +kernel
  have b255 : p_M 255 8 < 2 ^ 64 := by decide +kernel
  have b68 : p_M 68 8 < 2 ^ 63 := by decide +kernel
  have hn8 : n < 256 ^ 8 := by have e : (256 : Nat) ^ 8 = 2 ^ 64 := by decide +kernel
                               rw [e]; exact hn
  have u1 : ((1 : Int32).toInt64.toUInt64 &&& Int64.toUInt64 63) = UInt64.ofNat 1 := by decide +kernel
  have u2 : ((2 : Int32).toInt64.toUInt64 &&& Int64.toUInt64 63) = UInt64.ofNat 2 := by decide +kernel
  have u4 : ((4 : Int32).toInt64.toUInt64 &&& Int64.toUInt64 63) = UInt64.ofNat 4 := by decide +kernel
  have u8 : ((8 : Int32).toInt64.toUInt64 &&& Int64.toUInt64 63) = UInt64.ofNat 8 := by decide +kernel
  have u16 : ((16 : Int32).toInt64.toUInt64 &&& Int64.toUInt64 63) = UInt64.ofNat 16 := by decide +kernel
  have u32 : ((32 : Int32).toInt64.toUInt64 &&& Int64.toUInt64 63) = UInt64.ofNat 32 := by decide +kernel
  obtain ⟨f1, l1⟩ := p_F1_by 8 n hn8
  have f2 := p_F2_by 8 n hn8
  obtain ⟨f3, -⟩ := p_F3_by 8 n hn8
  have y1 := p_by_le p_l1 8 n
  have y2 := p_by_le p_l2 8 n
  have d2 : n / 2 < 2 ^ 64 := by omega
  rw [g_ushr (p := 2) u1 (by decide) (by decide) hn, m1, g_and d2 b85 rfl, lN_sub l1] at e1
  have e1 : v1 = lN (p_by p_1 8 n) := e1.trans (congrArg lN f1)
  generalize p_by p_1 8 n = a1 at e1 y1 f2
  subst e1
  rw [g_ushr (p := 4) u2 (by decide) (by decide) (by omega), m2, g_and (by omega) b51 rfl, g_and (by omega) b51 rfl, lN_add] at e2
  have e2 : v2 = lN (p_by p_2 8 n) := e2.trans (congrArg lN f2)
  generalize p_by p_2 8 n = a2 at e2 y2 f3
  subst e2
  rw [g_ushr (p := 16) u4 (by decide) (by decide) (by omega), m3, lN_add, g_and (by omega) b15 rfl] at e3
  have e3 : v3 = lN (p_by p_3 8 n) := e3.trans (congrArg lN f3)
  obtain ⟨l, hl, hx, hy, hs⟩ := p_ct 8 n hn8
  obtain ⟨z3, hz⟩ := p_fin l hl hx _ hy
  generalize p_by p_3 8 n = a3 at e3 z3 hz
  subst e3
  obtain ⟨z4, z5, hz⟩ := hz _ rfl _ rfl
  obtain ⟨z6, hz⟩ := hz _ rfl
  rw [g_ushr (p := 256) u8 (by decide) (by decide) (by omega), lN_add] at e4
  generalize a3 + a3 / 256 = a4 at e4 z4 z5 z6 hz
  subst e4
  rw [g_ushr (p := 65536) u16 (by decide) (by decide) (by omega), lN_add] at e5
  generalize a4 + a4 / 65536 = a5 at e5 z5 z6 hz
  subst e5
  rw [g_ushr (p := 4294967296) u32 (by decide) (by decide) (by omega), lN_add] at e6
  generalize a5 + a5 / 4294967296 = a6 at e6 z6 hz
  subst e6
  rw [lN_i, pk_and (nI a6) (m := 127) 7 (by decide)]
  have t1 : (nI a6).toBitVec.toNat = a6 % 2 ^ 32 := BitVec.toNat_ofNat a6 32
  have t2 : b_ct (b_t (lN n)) 64 = b_ct n.testBit (8 * 8) := b_ct_c 64 (fun j hj => p_bt hj)
  rw [t1, t2, ← hs, ← hz]
  congr 1
  omega
