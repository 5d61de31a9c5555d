/-! What the search promises, by the rank of its state. -/
abbrev R_s (k : Nat) : Room := { frames := 2 * k, cells := 0, slots := 0, locals := 56 * k }
abbrev R_g (k : Nat) : Room := { frames := 2 * k + 1, cells := 0, slots := 0, locals := 56 * k + 28 }
noncomputable abbrev grk (c : Nat) (fO fA fB fT : Nat → Int32) (n : Nat) : Nat := s_rk c (gmv fO fA fB) (gtg fT) n
def M_srch (l : Launch) (dC : Nat → ClassId) (dI : Nat → Nat → Nat) (ad : Nat → Nat) (cz ci cj : ClassId) (c0 : Nat) (fO fA fB fT : Nat → Int32) (k : Nat) : Prop :=
  ∀ (sz : Nat) (sv : Int32) (fC : Nat → Int64) (rs : Int64) (dk ds : Int32) (fL fl fh : Nat → Int32) (n d : Nat) (al be : Int32), gre c0 fO fA fB fT n → grk c0 fO fA fB fT n < k → grk c0 fO fA fB fT n + d < c0 → al.toInt < be.toInt → g_bd c0 fO fA fB fT fl fh →
    Met l yX0_search wX0_search (R_s k) (va_Pc [.ref (ad 0), .int (nI n), .int al, .int be, .int (nI d)] (g_Pre (dC, dI) vwCl (gty cz ci cj) (gw ad cz ci cj (nI c0, fO, fA, fB, fT, sv, fC, rs, dk, ds, fL, fl, fh)) sz))
      (va_Qi (fun (r : Int32) (u : GS) => ∃ fl2 fh2 : Nat → Int32, g_bd c0 fO fA fB fT fl2 fh2 ∧ w_ok r.toInt (gval c0 fO fA fB fT n) al.toInt be.toInt ∧ u = (nI c0, fO, fA, fB, fT, sv, fC, rs, dk, ds, fL, fl2, fh2)) (g_At (dC, dI) vwCl (gty cz ci cj) (va_A (gw ad cz ci cj (nI c0, fO, fA, fB, fT, sv, fC, rs, dk, ds, fL, fl, fh)) sz) (gw ad cz ci cj)) (va_A (gw ad cz ci cj (nI c0, fO, fA, fB, fT, sv, fC, rs, dk, ds, fL, fl, fh)) sz)) 0 0 (va_A (gw ad cz ci cj (nI c0, fO, fA, fB, fT, sv, fC, rs, dk, ds, fL, fl, fh)) sz)
/-- greatest (fi) or least, where the states it goes to have ranks below k -/
def M_pick (y : MethodName) (ws : List Cond) (fi : Bool) (l : Launch) (dC : Nat → ClassId) (dI : Nat → Nat → Nat) (ad : Nat → Nat) (cz ci cj : ClassId) (c0 : Nat) (fO fA fB fT : Nat → Int32) (k : Nat) : Prop :=
  ∀ (sz : Nat) (sv : Int32) (fC : Nat → Int64) (rs : Int64) (dk ds : Int32) (fL fl fh : Nat → Int32) (n d : Nat) (al be : Int32), gre c0 fO fA fB fT n → grk c0 fO fA fB fT n < k + 1 → grk c0 fO fA fB fT n + d < c0 → al.toInt < be.toInt → g_bd c0 fO fA fB fT fl fh → ¬ fO n = 0 → gfi fA n = fi →
    Met l y ws (R_g k) (va_Pc [.ref (ad 0), .int (nI n), .int al, .int be, .int (nI d)] (g_Pre (dC, dI) vwCl (gty cz ci cj) (gw ad cz ci cj (nI c0, fO, fA, fB, fT, sv, fC, rs, dk, ds, fL, fl, fh)) sz))
      (va_Qi (fun (r : Int32) (u : GS) => ∃ fl2 fh2 : Nat → Int32, g_bd c0 fO fA fB fT fl2 fh2 ∧ w_ok r.toInt (gval c0 fO fA fB fT n) al.toInt be.toInt ∧ u = (nI c0, fO, fA, fB, fT, sv, fC, rs, dk, ds, fL, fl2, fh2)) (g_At (dC, dI) vwCl (gty cz ci cj) (va_A (gw ad cz ci cj (nI c0, fO, fA, fB, fT, sv, fC, rs, dk, ds, fL, fl, fh)) sz) (gw ad cz ci cj)) (va_A (gw ad cz ci cj (nI c0, fO, fA, fB, fT, sv, fC, rs, dk, ds, fL, fl, fh)) sz)) 0 0 (va_A (gw ad cz ci cj (nI c0, fO, fA, fB, fT, sv, fC, rs, dk, ds, fL, fl, fh)) sz)
theorem k_max (x y : Int32) : (if x < y then y else x).toInt = max x.toInt y.toInt := by
  by_cases h : x < y
  · rw [if_pos h]; rw [Int32.lt_iff_toInt_lt] at h; omega
  · rw [if_neg h]; rw [Int32.lt_iff_toInt_lt] at h; omega
theorem k_min (x y : Int32) : (if y < x then y else x).toInt = min x.toInt y.toInt := by
  by_cases h : y < x
  · rw [if_pos h]; rw [Int32.lt_iff_toInt_lt] at h; omega
  · rw [if_neg h]; rw [Int32.lt_iff_toInt_lt] at h; omega
section KV
variable {c0 : Nat} {fO fA fB fT : Nat → Int32}
theorem k_vx (hg : g_ok c0 fO fA fB fT) (hn : g_nd c0 fO fA fB fT) {n : Nat} (hr : gre c0 fO fA fB fT n) (hO : ¬ fO n = 0) (hf : gfi fA n = true) : gval c0 fO fA fB fT n = w_mx (fun j => gval c0 fO fA fB fT (gtg fT n j)) (gmv fO fA fB n) := by
  have hd := g_nd_open (hn.1 n (s_re_lt (g_sok hg) hr) hr) hO
  show s_val _ _ _ _ c0 n = _
  rw [s_val_eq (g_sok hg) hn.2 hr, if_neg hd.1, if_pos hf]
  rfl
theorem k_vn (hg : g_ok c0 fO fA fB fT) (hn : g_nd c0 fO fA fB fT) {n : Nat} (hr : gre c0 fO fA fB fT n) (hO : ¬ fO n = 0) (hf : gfi fA n = false) : gval c0 fO fA fB fT n = w_mn (fun j => gval c0 fO fA fB fT (gtg fT n j)) (gmv fO fA fB n) := by
  have hd := g_nd_open (hn.1 n (s_re_lt (g_sok hg) hr) hr) hO
  show s_val _ _ _ _ c0 n = _
  rw [s_val_eq (g_sok hg) hn.2 hr, if_neg hd.1, if_neg (by rw [hf]; decide)]
  rfl
/-- a bound that a search has found is kept -/
theorem k_lo {fl fh : Nat → Int32} (h : g_bd c0 fO fA fB fT fl fh) {n : Nat} (hO : ¬ fO n = 0) {x : Int32} (hx : x.toInt ≤ gval c0 fO fA fB fT n) : g_bd c0 fO fA fB fT (upd fl n x) fh := by
  intro m hm
  obtain ⟨a, b, c⟩ := h m hm
  by_cases e : m = n
  · subst e; rw [pk_us]; exact ⟨hx, b, fun q => absurd q hO⟩
  · rw [pk_un e]; exact ⟨a, b, c⟩
theorem k_hi {fl fh : Nat → Int32} (h : g_bd c0 fO fA fB fT fl fh) {n : Nat} (hO : ¬ fO n = 0) {x : Int32} (hx : gval c0 fO fA fB fT n ≤ x.toInt) : g_bd c0 fO fA fB fT fl (upd fh n x) := by
  intro m hm
  obtain ⟨a, b, c⟩ := h m hm
  by_cases e : m = n
  · subst e; rw [pk_us]; exact ⟨a, hx, fun q => absurd q hO⟩
  · rw [pk_un e]; exact ⟨a, b, c⟩
end KV
theorem k_il {x y : Int32} (h : x ≤ y) : x.toInt ≤ y.toInt := Int32.le_iff_toInt_le.mp h
theorem k_nil {x y : Int32} (h : ¬ x ≤ y) : y.toInt < x.toInt := by rw [Int32.le_iff_toInt_le] at h; omega
theorem k_it {x y : Int32} (h : x < y) : x.toInt < y.toInt := Int32.lt_iff_toInt_lt.mp h
theorem k_nit {x y : Int32} (h : ¬ x < y) : y.toInt ≤ x.toInt := by rw [Int32.lt_iff_toInt_lt] at h; omega
