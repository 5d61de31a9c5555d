/-! Class and reference answer alike and stay alike (by tool/lawpure.py). -/
abbrev L_I (u : GS) (v : MS) : Prop := ∃ c0, u.1 = nI c0 ∧ v.1 = nI c0 ∧ g_ok c0 u.2.1 u.2.2.1 u.2.2.2.1 u.2.2.2.2.1 ∧ (u.2.2.2.2.2.1 = 0 ∨ (u.2.2.2.2.2.1 = 1 ∧ g_sv c0 u.2.1 u.2.2.1 u.2.2.2.1 u.2.2.2.2.1 u.2.2.2.2.2.2.2.1 u.2.2.2.2.2.2.2.2.1 u.2.2.2.2.2.2.2.2.2.1 u.2.2.2.2.2.2.2.2.2.2.1 u.2.2.2.2.2.2.2.2.2.2.2.1 u.2.2.2.2.2.2.2.2.2.2.2.2)) ∧ m_rel c0 u.2.1 u.2.2.1 u.2.2.2.1 u.2.2.2.2.1 v.2.1 v.2.2.1 v.2.2.2.1 v.2.2.2.2.1 v.2.2.2.2.2.1 v.2.2.2.2.2.2.1
section LP
variable {c0 : Nat} {fO fA fB fT mO mG mH mM mN mT : Nat → Int32}
theorem l_ok_st {num : Nat} (h1 : 1 ≤ num) (h2 : num ≤ 60) (h : ∀ k, k < num → fO k = 0 ∧ fA k = 50 ∧ fB k = 50 ∧ ∀ j, j < 12 → fT (k * 12 + j) = 0) : g_ok num fO fA fB fT := by
  refine ⟨h1, h2, fun n hn => ?_⟩
  obtain ⟨a, b, c, d⟩ := h n hn
  refine ⟨Or.inl a, fun _ => ?_, fun q => absurd a q, fun j hj => ⟨0, by omega, d j hj⟩⟩
  rw [b, c]
  decide
theorem l_re_st {num : Nat} (h : ∀ k, k < num → fO k = 0 ∧ fA k = 50 ∧ fB k = 50 ∧ ∀ j, j < 12 → fT (k * 12 + j) = 0) (h' : ∀ k, k < num → mO k = 0 ∧ mG k = 50 ∧ mH k = 50) : m_rel num fO fA fB fT mO mG mH mM mN mT := by
  intro n hn
  obtain ⟨a, b, c, d⟩ := h n hn
  obtain ⟨a', b', c'⟩ := h' n hn
  exact ⟨a'.trans a.symm, fun _ => ⟨b'.trans b.symm, c'.trans c.symm⟩, fun q => absurd a q⟩
theorem l_row {fT2 : Nat → Int32} {k n j : Nat} (h : ∀ i, fT2 i = if k * 12 ≤ i ∧ i < k * 12 + 12 then 0 else fT i) (hj : j < 12) (hn : n ≠ k) : fT2 (n * 12 + j) = fT (n * 12 + j) := by
  rw [h, if_neg]
  rcases Nat.lt_or_gt_of_ne hn with q | q <;> omega
theorem l_row0 {fT2 : Nat → Int32} {k j : Nat} (h : ∀ i, fT2 i = if k * 12 ≤ i ∧ i < k * 12 + 12 then 0 else fT i) (hj : j < 12) : fT2 (k * 12 + j) = 0 := by
  rw [h, if_pos]; omega
theorem l_ok_en {k : Nat} {x y : Int32} {fT2 : Nat → Int32} (hg : g_ok c0 fO fA fB fT) (hx : (-2 ≤ x.toInt ∧ x.toInt ≤ 100) ∧ (-2 ≤ y.toInt ∧ y.toInt ≤ 100)) (h : ∀ i, fT2 i = if k * 12 ≤ i ∧ i < k * 12 + 12 then 0 else fT i) : g_ok c0 (upd fO k 0) (upd fA k x) (upd fB k y) fT2 := by
  refine ⟨hg.1, hg.2.1, fun n hn => ?_⟩
  by_cases e : n = k
  · subst e
    rw [pk_us, pk_us, pk_us]
    exact ⟨Or.inl rfl, fun _ => ⟨hx.1.1, hx.1.2, hx.2.1, hx.2.2⟩, fun q => absurd rfl q, fun j hj => ⟨0, hg.1, l_row0 h hj⟩⟩
  · rw [pk_un e, pk_un e, pk_un e]
    obtain ⟨a, b, c, d⟩ := hg.2.2 n hn
    exact ⟨a, b, c, fun j hj => by rw [l_row h hj e]; exact d j hj⟩
theorem l_re_en {k : Nat} {x y : Int32} {fT2 : Nat → Int32} (hm : m_rel c0 fO fA fB fT mO mG mH mM mN mT) (h : ∀ i, fT2 i = if k * 12 ≤ i ∧ i < k * 12 + 12 then 0 else fT i) : m_rel c0 (upd fO k 0) (upd fA k x) (upd fB k y) fT2 (upd mO k 0) (upd mG k x) (upd mH k y) mM mN mT := by
  intro n hn
  by_cases e : n = k
  · subst e
    rw [pk_us, pk_us, pk_us, pk_us, pk_us, pk_us]
    exact ⟨rfl, fun _ => ⟨rfl, rfl⟩, fun q => absurd rfl q⟩
  · rw [pk_un e, pk_un e, pk_un e, pk_un e, pk_un e, pk_un e]
    obtain ⟨a, b, c⟩ := hm n hn
    exact ⟨a, b, fun q => ⟨(c q).1, (c q).2.1, fun j hj => by rw [l_row h hj e]; exact (c q).2.2 j hj⟩⟩
theorem l_12 {x : Int32} (h : 0 ≤ x.toInt ∧ x.toInt ≤ 12) : ∃ a, a ≤ 12 ∧ x = nI a := by
  refine ⟨x.toInt.toNat, by omega, ?_⟩
  rw [← Int32.toInt_inj, nI_toInt (by omega)]
  omega
theorem l_ok_op {k : Nat} {x y : Int32} {fT2 : Nat → Int32} (hg : g_ok c0 fO fA fB fT) (hx : (0 ≤ x.toInt ∧ x.toInt ≤ 12) ∧ (0 ≤ y.toInt ∧ y.toInt ≤ 12) ∧ x * y ≤ 12) (h : ∀ i, fT2 i = if k * 12 ≤ i ∧ i < k * 12 + 12 then 0 else fT i) : g_ok c0 (upd fO k 1) (upd fA k x) (upd fB k y) fT2 := by
  refine ⟨hg.1, hg.2.1, fun n hn => ?_⟩
  by_cases e : n = k
  · subst e
    rw [pk_us, pk_us, pk_us]
    refine ⟨Or.inr rfl, fun q => absurd q (by decide), fun _ => ?_, fun j hj => ⟨0, hg.1, l_row0 h hj⟩⟩
    obtain ⟨a, ha, ea⟩ := l_12 hx.1
    obtain ⟨b, hb, eb⟩ := l_12 hx.2.1
    have h3 := hx.2.2
    have h4 : a * b ≤ 12 * 12 := Nat.mul_le_mul ha hb
    rw [ea, eb, pk_mul, Int32.le_iff_toInt_le, nI_toInt (by omega)] at h3
    have e12 : (12 : Int32).toInt = 12 := by decide
    exact ⟨a, b, ha, hb, by omega, ea, eb⟩
  · rw [pk_un e, pk_un e, pk_un e]
    obtain ⟨a, b, c, d⟩ := hg.2.2 n hn
    exact ⟨a, b, c, fun j hj => by rw [l_row h hj e]; exact d j hj⟩
theorem l_re_op {k : Nat} {x y : Int32} {fT2 mT2 : Nat → Int32} (hm : m_rel c0 fO fA fB fT mO mG mH mM mN mT) (h : ∀ i, fT2 i = if k * 12 ≤ i ∧ i < k * 12 + 12 then 0 else fT i) (h' : ∀ i, mT2 i = if k * 12 ≤ i ∧ i < k * 12 + 12 then 0 else mT i) : m_rel c0 (upd fO k 1) (upd fA k x) (upd fB k y) fT2 (upd mO k 1) mG mH (upd mM k x) (upd mN k y) mT2 := by
  intro n hn
  by_cases e : n = k
  · subst e
    rw [pk_us, pk_us, pk_us, pk_us, pk_us, pk_us]
    exact ⟨rfl, fun q => absurd q (by decide), fun _ => ⟨rfl, rfl, fun j hj => by rw [l_row0 h hj, l_row0 h' hj]⟩⟩
  · rw [pk_un e, pk_un e, pk_un e, pk_un e, pk_un e, pk_un e]
    obtain ⟨a, b, c⟩ := hm n hn
    exact ⟨a, b, fun q => ⟨(c q).1, (c q).2.1, fun j hj => by rw [l_row h hj e, l_row h' hj e]; exact (c q).2.2 j hj⟩⟩
theorem l_ok_li {a i t : Nat} (hg : g_ok c0 fO fA fB fT) (ht : t < c0) : g_ok c0 fO fA fB (upd fT (a * 12 + i) (nI t)) := by
  refine ⟨hg.1, hg.2.1, fun n hn => ?_⟩
  obtain ⟨q1, q2, q3, q4⟩ := hg.2.2 n hn
  refine ⟨q1, q2, q3, fun j hj => ?_⟩
  by_cases e : n * 12 + j = a * 12 + i
  · rw [e, pk_us]; exact ⟨t, ht, rfl⟩
  · rw [pk_un e]; exact q4 j hj
theorem l_re_li {a i t : Nat} (hm : m_rel c0 fO fA fB fT mO mG mH mM mN mT) : m_rel c0 fO fA fB (upd fT (a * 12 + i) (nI t)) mO mG mH mM mN (upd mT (a * 12 + i) (nI t)) := by
  intro n hn
  obtain ⟨q1, q2, q3⟩ := hm n hn
  refine ⟨q1, q2, fun q => ⟨(q3 q).1, (q3 q).2.1, fun j hj => ?_⟩⟩
  by_cases e : n * 12 + j = a * 12 + i
  · rw [e, pk_us, pk_us]
  · rw [pk_un e, pk_un e]; exact (q3 q).2.2 j hj
theorem l_df0 {c : Nat} {re to : Nat → Prop} {dn : Nat → Int32} {ds : Int32} (h : g_df c re to dn 0 ds) : ds = -1 := by
  rcases h with h | ⟨_, h | ⟨_, _, h⟩⟩
  · exact absurd rfl (g_d1_ne h)
  · exact absurd rfl (g_d2_ne h)
  · exact h
end LP
section LQ
variable {c0 : Nat} {fO fA fB fT : Nat → Int32} {sv : Int32} {fC : Nat → Int64} {rs : Int64} {dk ds : Int32} {fL fl fh : Nat → Int32} {mO mG mH mM mN mT mR mF mK mV mE : Nat → Int32} {th : Int32}
set_option maxHeartbeats 1000000 in
theorem p_states (hg : g_ok c0 fO fA fB fT) (hsv : sv = 0 ∨ (sv = 1 ∧ g_sv c0 fO fA fB fT rs dk ds fL fl fh)) (hm : m_rel c0 fO fA fB fT mO mG mH mM mN mT) {n r b9 : Int32} {u : GS} {v : MS} (h : (r = 0 ∧ (∃ num, 1 ≤ num ∧ num ≤ 60 ∧ n = nI num ∧ ∃ fO2 fA2 fB2 fT2 : Nat → Int32, (∀ k, k < num → fO2 k = 0 ∧ fA2 k = 50 ∧ fB2 k = 50 ∧ ∀ j, j < 12 → fT2 (k * 12 + j) = 0) ∧ u = (nI num, fO2, fA2, fB2, fT2, 0, fC, rs, dk, ds, fL, fl, fh))) ∨ (r = 1 ∧ (u = ((nI c0), fO, fA, fB, fT, sv, fC, rs, dk, ds, fL, fl, fh) ∧ ∀ k, 1 ≤ k → k ≤ 60 → n ≠ nI k))) (h' : (∃ num, 1 ≤ num ∧ num ≤ 60 ∧ n = nI num ∧ ∃ fO2 fG2 fH2 : Nat → Int32, (∀ k, k < num → fO2 k = 0 ∧ fG2 k = 50 ∧ fH2 k = 50) ∧ v = (nI num, fO2, fG2, fH2, mM, mN, mT, mR, mF, mK, mV, mE, 0)) ∨ ((∀ k, 1 ≤ k → k ≤ 60 → n ≠ nI k) ∧ v = ((nI c0), mO, mG, mH, mM, mN, mT, mR, mF, mK, mV, mE, 1))) : v.2.2.2.2.2.2.2.2.2.2.2.2 = r ∧ L_I u v := by
  rcases h with ⟨rfl, num, h1, h2, rfl, fO2, fA2, fB2, fT2, hev, rfl⟩ | ⟨rfl, rfl, hno⟩
  · rcases h' with ⟨num', h1', h2', e, fO3, fG3, fH3, hev', rfl⟩ | ⟨hno, rfl⟩
    · have e2 := k_inj (by omega) (by omega) e
      subst e2
      exact ⟨rfl, num, rfl, rfl, l_ok_st h1 h2 hev, Or.inl rfl, l_re_st hev hev'⟩
    · exact absurd rfl (hno num h1 h2)
  · rcases h' with ⟨num', h1', h2', rfl, fO3, fG3, fH3, hev', rfl⟩ | ⟨hno, rfl⟩
    · exact absurd rfl (hno num' h1' h2')
    · exact ⟨rfl, ⟨c0, rfl, rfl, hg, hsv, hm⟩⟩
set_option maxHeartbeats 1000000 in
theorem p_end (hg : g_ok c0 fO fA fB fT) (hsv : sv = 0 ∨ (sv = 1 ∧ g_sv c0 fO fA fB fT rs dk ds fL fl fh)) (hm : m_rel c0 fO fA fB fT mO mG mH mM mN mT) {n x y r b9 : Int32} {u : GS} {v : MS} (h : (r = 0 ∧ (∃ k, k < c0 ∧ n = nI k ∧ ((-2 ≤ x.toInt ∧ x.toInt ≤ 100) ∧ (-2 ≤ y.toInt ∧ y.toInt ≤ 100)) ∧ ∃ fT2 : Nat → Int32, (∀ i, fT2 i = if k * 12 ≤ i ∧ i < k * 12 + 12 then 0 else fT i) ∧ u = ((nI c0), upd fO k 0, upd fA k x, upd fB k y, fT2, 0, fC, rs, dk, ds, fL, fl, fh))) ∨ (r = 1 ∧ (u = ((nI c0), fO, fA, fB, fT, sv, fC, rs, dk, ds, fL, fl, fh) ∧ ∀ k, k < c0 → n ≠ nI k)) ∨ (r = 2 ∧ (u = ((nI c0), fO, fA, fB, fT, sv, fC, rs, dk, ds, fL, fl, fh) ∧ (∃ k, k < c0 ∧ n = nI k) ∧ ¬ ((-2 ≤ x.toInt ∧ x.toInt ≤ 100) ∧ (-2 ≤ y.toInt ∧ y.toInt ≤ 100))))) (h' : (∃ k, k < c0 ∧ n = nI k ∧ ((-2 ≤ x.toInt ∧ x.toInt ≤ 100) ∧ (-2 ≤ y.toInt ∧ y.toInt ≤ 100)) ∧ v = ((nI c0), upd mO k 0, upd mG k x, upd mH k y, mM, mN, mT, mR, mF, mK, mV, mE, 0)) ∨ ((∀ k, k < c0 → n ≠ nI k) ∧ v = ((nI c0), mO, mG, mH, mM, mN, mT, mR, mF, mK, mV, mE, 1)) ∨ ((∃ k, k < c0 ∧ n = nI k) ∧ ¬ ((-2 ≤ x.toInt ∧ x.toInt ≤ 100) ∧ (-2 ≤ y.toInt ∧ y.toInt ≤ 100)) ∧ v = ((nI c0), mO, mG, mH, mM, mN, mT, mR, mF, mK, mV, mE, 2))) : v.2.2.2.2.2.2.2.2.2.2.2.2 = r ∧ L_I u v := by
  have h60 := hg.2.1
  rcases h with ⟨rfl, k, hk, rfl, hx, fT2, hT, rfl⟩ | ⟨rfl, rfl, hno⟩ | ⟨rfl, rfl, ⟨k, hk, rfl⟩, hx⟩
  · rcases h' with ⟨k2, hk2, e, hx2, rfl⟩ | ⟨hno, rfl⟩ | ⟨_, hx2, rfl⟩
    · have e2 := k_inj (by omega) (by omega) e
      subst e2
      exact ⟨rfl, c0, rfl, rfl, l_ok_en hg hx hT, Or.inl rfl, l_re_en hm hT⟩
    · exact absurd rfl (hno k hk)
    · exact absurd hx hx2
  · rcases h' with ⟨k2, hk2, e, hx2, rfl⟩ | ⟨_, rfl⟩ | ⟨⟨k2, hk2, e⟩, _, rfl⟩
    · exact absurd e (hno k2 hk2)
    · exact ⟨rfl, ⟨c0, rfl, rfl, hg, hsv, hm⟩⟩
    · exact absurd e (hno k2 hk2)
  · rcases h' with ⟨k2, hk2, e, hx2, rfl⟩ | ⟨hno, rfl⟩ | ⟨_, hx2, rfl⟩
    · exact absurd hx2 hx
    · exact absurd rfl (hno k hk)
    · exact ⟨rfl, ⟨c0, rfl, rfl, hg, hsv, hm⟩⟩
set_option maxHeartbeats 1000000 in
theorem p_open (hg : g_ok c0 fO fA fB fT) (hsv : sv = 0 ∨ (sv = 1 ∧ g_sv c0 fO fA fB fT rs dk ds fL fl fh)) (hm : m_rel c0 fO fA fB fT mO mG mH mM mN mT) {n x y r b9 : Int32} {u : GS} {v : MS} (h : (r = 0 ∧ (∃ k, k < c0 ∧ n = nI k ∧ ((0 ≤ x.toInt ∧ x.toInt ≤ 12) ∧ (0 ≤ y.toInt ∧ y.toInt ≤ 12) ∧ x * y ≤ 12) ∧ ∃ fT2 : Nat → Int32, (∀ i, fT2 i = if k * 12 ≤ i ∧ i < k * 12 + 12 then 0 else fT i) ∧ u = ((nI c0), upd fO k 1, upd fA k x, upd fB k y, fT2, 0, fC, rs, dk, ds, fL, fl, fh))) ∨ (r = 1 ∧ (u = ((nI c0), fO, fA, fB, fT, sv, fC, rs, dk, ds, fL, fl, fh) ∧ ∀ k, k < c0 → n ≠ nI k)) ∨ (r = 2 ∧ (u = ((nI c0), fO, fA, fB, fT, sv, fC, rs, dk, ds, fL, fl, fh) ∧ (∃ k, k < c0 ∧ n = nI k) ∧ ¬ ((0 ≤ x.toInt ∧ x.toInt ≤ 12) ∧ (0 ≤ y.toInt ∧ y.toInt ≤ 12) ∧ x * y ≤ 12)))) (h' : (∃ k, k < c0 ∧ n = nI k ∧ ((0 ≤ x.toInt ∧ x.toInt ≤ 12) ∧ (0 ≤ y.toInt ∧ y.toInt ≤ 12) ∧ x * y ≤ 12) ∧ ∃ fT2 : Nat → Int32, (∀ i, fT2 i = if k * 12 ≤ i ∧ i < k * 12 + 12 then 0 else mT i) ∧ v = ((nI c0), upd mO k 1, mG, mH, upd mM k x, upd mN k y, fT2, mR, mF, mK, mV, mE, 0)) ∨ ((∀ k, k < c0 → n ≠ nI k) ∧ v = ((nI c0), mO, mG, mH, mM, mN, mT, mR, mF, mK, mV, mE, 1)) ∨ ((∃ k, k < c0 ∧ n = nI k) ∧ ¬ ((0 ≤ x.toInt ∧ x.toInt ≤ 12) ∧ (0 ≤ y.toInt ∧ y.toInt ≤ 12) ∧ x * y ≤ 12) ∧ v = ((nI c0), mO, mG, mH, mM, mN, mT, mR, mF, mK, mV, mE, 2))) : v.2.2.2.2.2.2.2.2.2.2.2.2 = r ∧ L_I u v := by
  have h60 := hg.2.1
  rcases h with ⟨rfl, k, hk, rfl, hx, fT2, hT, rfl⟩ | ⟨rfl, rfl, hno⟩ | ⟨rfl, rfl, ⟨k, hk, rfl⟩, hx⟩
  · rcases h' with ⟨k2, hk2, e, hx2, mT2, hT2, rfl⟩ | ⟨hno, rfl⟩ | ⟨_, hx2, rfl⟩
    · have e2 := k_inj (by omega) (by omega) e
      subst e2
      exact ⟨rfl, c0, rfl, rfl, l_ok_op hg hx hT, Or.inl rfl, l_re_op hm hT hT2⟩
    · exact absurd rfl (hno k hk)
    · exact absurd hx hx2
  · rcases h' with ⟨k2, hk2, e, hx2, mT2, hT2, rfl⟩ | ⟨_, rfl⟩ | ⟨⟨k2, hk2, e⟩, _, rfl⟩
    · exact absurd e (hno k2 hk2)
    · exact ⟨rfl, ⟨c0, rfl, rfl, hg, hsv, hm⟩⟩
    · exact absurd e (hno k2 hk2)
  · rcases h' with ⟨k2, hk2, e, hx2, mT2, hT2, rfl⟩ | ⟨hno, rfl⟩ | ⟨_, hx2, rfl⟩
    · exact absurd hx2 hx
    · exact absurd rfl (hno k hk)
    · exact ⟨rfl, ⟨c0, rfl, rfl, hg, hsv, hm⟩⟩
set_option maxHeartbeats 1000000 in
theorem p_link (hg : g_ok c0 fO fA fB fT) (hsv : sv = 0 ∨ (sv = 1 ∧ g_sv c0 fO fA fB fT rs dk ds fL fl fh)) (hm : m_rel c0 fO fA fB fT mO mG mH mM mN mT) {n j x r b9 : Int32} {u : GS} {v : MS} (h : (r = 0 ∧ (∃ a i t, a < c0 ∧ i < gmv fO fA fB a ∧ t < c0 ∧ n = nI a ∧ j = nI i ∧ x = nI t ∧ u = ((nI c0), fO, fA, fB, upd fT (a * 12 + i) (nI t), 0, fC, rs, dk, ds, fL, fl, fh))) ∨ (r = 1 ∧ (u = ((nI c0), fO, fA, fB, fT, sv, fC, rs, dk, ds, fL, fl, fh) ∧ ∀ a i t, a < c0 → i < gmv fO fA fB a → t < c0 → ¬ (n = nI a ∧ j = nI i ∧ x = nI t)))) (h' : (∃ a i t, a < c0 ∧ i < gmv fO fA fB a ∧ t < c0 ∧ n = nI a ∧ j = nI i ∧ x = nI t ∧ v = ((nI c0), mO, mG, mH, mM, mN, upd mT (a * 12 + i) (nI t), mR, mF, mK, mV, mE, 0)) ∨ ((∀ a i t, a < c0 → i < gmv fO fA fB a → t < c0 → ¬ (n = nI a ∧ j = nI i ∧ x = nI t)) ∧ v = ((nI c0), mO, mG, mH, mM, mN, mT, mR, mF, mK, mV, mE, 1))) : v.2.2.2.2.2.2.2.2.2.2.2.2 = r ∧ L_I u v := by
  have h60 := hg.2.1
  rcases h with ⟨rfl, a, i, t, ha, hi, ht, rfl, rfl, rfl, rfl⟩ | ⟨rfl, rfl, hno⟩
  · rcases h' with ⟨a2, i2, t2, ha2, hi2, ht2, e1, e2, e3, rfl⟩ | ⟨hno, rfl⟩
    · have q1 := k_inj (by omega) (by omega) e1
      subst q1
      have h12 := (g_mvI hg ha).2
      have q2 := k_inj (by omega) (by omega) e2
      have q3 := k_inj (by omega) (by omega) e3
      subst q2 q3
      exact ⟨rfl, c0, rfl, rfl, l_ok_li hg ht, Or.inl rfl, l_re_li hm⟩
    · exact absurd ⟨rfl, rfl, rfl⟩ (hno a i t ha hi ht)
  · rcases h' with ⟨a2, i2, t2, ha2, hi2, ht2, e1, e2, e3, rfl⟩ | ⟨_, rfl⟩
    · exact absurd ⟨e1, e2, e3⟩ (hno a2 i2 t2 ha2 hi2 ht2)
    · exact ⟨rfl, ⟨c0, rfl, rfl, hg, hsv, hm⟩⟩
set_option maxHeartbeats 1000000 in
theorem p_next (hg : g_ok c0 fO fA fB fT) (hsv : sv = 0 ∨ (sv = 1 ∧ g_sv c0 fO fA fB fT rs dk ds fL fl fh)) (hm : m_rel c0 fO fA fB fT mO mG mH mM mN mT) {n j r b9 : Int32} {u : (GS × (Nat → Int64))} {v : MS} (h : (r = 0 ∧ ∃ x9 : Int32, (u.1 = ((nI c0), fO, fA, fB, fT, sv, fC, rs, dk, ds, fL, fl, fh) ∧ ∃ a i, a < c0 ∧ i < gmv fO fA fB a ∧ n = nI a ∧ j = nI i ∧ x9 = nI (gtg fT a i)) ∧ u.2 (Int32.toNatClampNeg 0) = x9.toInt64) ∨ (r = 1 ∧ (u.1 = ((nI c0), fO, fA, fB, fT, sv, fC, rs, dk, ds, fL, fl, fh) ∧ ∀ a i, a < c0 → i < gmv fO fA fB a → ¬ (n = nI a ∧ j = nI i)))) (h' : (∃ a i, a < c0 ∧ i < gmv fO fA fB a ∧ n = nI a ∧ j = nI i ∧ b9 = nI (gtg fT a i) ∧ v = ((nI c0), mO, mG, mH, mM, mN, mT, mR, mF, mK, mV, mE, 0)) ∨ ((∀ a i, a < c0 → i < gmv fO fA fB a → ¬ (n = nI a ∧ j = nI i)) ∧ v = ((nI c0), mO, mG, mH, mM, mN, mT, mR, mF, mK, mV, mE, 1))) : v.2.2.2.2.2.2.2.2.2.2.2.2 = r ∧ L_I u.1 v ∧ (r = 0 → u.2 (Int32.toNatClampNeg 0) = b9.toInt64) := by
  have h60 := hg.2.1
  obtain ⟨u1, fo⟩ := u
  rcases h with ⟨rfl, x9, ⟨e0, a, i, ha, hi, rfl, rfl, rfl⟩, hx⟩ | ⟨rfl, e0, hno⟩
  · dsimp only at e0
    subst e0
    rcases h' with ⟨a2, i2, ha2, hi2, e1, e2, rfl, rfl⟩ | ⟨hno, rfl⟩
    · have q1 := k_inj (by omega) (by omega) e1
      subst q1
      have h12 := (g_mvI hg ha).2
      have q2 := k_inj (by omega) (by omega) e2
      subst q2
      exact ⟨rfl, ⟨c0, rfl, rfl, hg, hsv, hm⟩, fun _ => hx⟩
    · exact absurd ⟨rfl, rfl⟩ (hno a i ha hi)
  · dsimp only at e0
    subst e0
    rcases h' with ⟨a2, i2, ha2, hi2, e1, e2, rfl, rfl⟩ | ⟨_, rfl⟩
    · exact absurd ⟨e1, e2⟩ (hno a2 i2 ha2 hi2)
    · exact ⟨rfl, ⟨c0, rfl, rfl, hg, hsv, hm⟩, fun q => absurd q (by decide)⟩
set_option maxHeartbeats 1000000 in
theorem p_reached (hg : g_ok c0 fO fA fB fT) (hsv : sv = 0 ∨ (sv = 1 ∧ g_sv c0 fO fA fB fT rs dk ds fL fl fh)) (hm : m_rel c0 fO fA fB fT mO mG mH mM mN mT) {r b9 : Int32} {u : GS} {v : MS} (h : ∃ (dk2 ds2 : Int32) (g : Nat → Bool), g_SV c0 fO fA fB fT dk2 ds2 u ∧ (∀ m, g m = true ↔ gre c0 fO fA fB fT m) ∧ r = nI (b_ct g c0)) (h' : ∃ fR2 : Nat → Int32, ((∀ m, m < c0 → ((¬ fR2 m = 0) ↔ gre c0 fO fA fB fT m)) ∧ m_bo c0 fR2) ∧ b9 = nI (b_ct (fun m => decide (¬ fR2 m = 0)) c0) ∧ v = ((nI c0), mO, mG, mH, mM, mN, mT, fR2, mF, mK, mV, mE, 0)) : r = b9 ∧ L_I u v := by
  obtain ⟨dk2, ds2, g, ⟨fC2, rs2, fL2, fl2, fh2, hs, rfl⟩, hgr, rfl⟩ := h
  obtain ⟨mR2, hR, rfl, rfl⟩ := h'
  refine ⟨?_, c0, rfl, rfl, hg, Or.inr ⟨rfl, hs⟩, hm⟩
  congr 1
  refine b_ct_c c0 (fun j hj => ?_)
  rw [Bool.eq_iff_iff, hgr j, decide_eq_true_eq]
  exact (hR.1 j hj).symm
set_option maxHeartbeats 1000000 in
theorem p_defect (hg : g_ok c0 fO fA fB fT) (hsv : sv = 0 ∨ (sv = 1 ∧ g_sv c0 fO fA fB fT rs dk ds fL fl fh)) (hm : m_rel c0 fO fA fB fT mO mG mH mM mN mT) {n r b9 : Int32} {u : (GS × (Nat → Int64))} {v : MS} (h : (r = 0 ∧ ∃ x9 : Int32, (∃ dk2 ds2, g_SV c0 fO fA fB fT dk2 ds2 u.1 ∧ ((n = 0 ∧ x9 = dk2) ∨ (n = 1 ∧ x9 = ds2))) ∧ u.2 (Int32.toNatClampNeg 0) = x9.toInt64) ∨ (r = 1 ∧ (u.1 = ((nI c0), fO, fA, fB, fT, sv, fC, rs, dk, ds, fL, fl, fh) ∧ ¬ n = 0 ∧ ¬ n = 1))) (h' : (∃ (fR2 fF2 : Nat → Int32) (dk ds : Int32), g_df c0 (s_re c0 (gmv fO fA fB) (gtg fT)) (fun n => s_to c0 (gmv fO fA fB) (gtg fT) n n) (g_dn fO fA fB) dk ds ∧ ((n = 0 ∧ b9 = dk) ∨ (n = 1 ∧ b9 = ds)) ∧ v = ((nI c0), mO, mG, mH, mM, mN, mT, fR2, fF2, mK, mV, mE, 0)) ∨ (¬ n = 0 ∧ ¬ n = 1 ∧ v = ((nI c0), mO, mG, mH, mM, mN, mT, mR, mF, mK, mV, mE, 1))) : v.2.2.2.2.2.2.2.2.2.2.2.2 = r ∧ L_I u.1 v ∧ (r = 0 → u.2 (Int32.toNatClampNeg 0) = b9.toInt64) := by
  obtain ⟨u1, fo⟩ := u
  rcases h with ⟨rfl, x9, ⟨dk2, ds2, ⟨fC2, rs2, fL2, fl2, fh2, hs, e0⟩, hn⟩, hx⟩ | ⟨rfl, e0, hn0, hn1⟩
  · dsimp only at e0
    subst e0
    rcases h' with ⟨mR2, mF2, dk3, ds3, hdf, hn3, rfl⟩ | ⟨hn0, hn1, rfl⟩
    · obtain ⟨q1, q2⟩ := m_df_u hs.2.1 hdf
      subst q1 q2
      refine ⟨rfl, ⟨c0, rfl, rfl, hg, Or.inr ⟨rfl, hs⟩, hm⟩, fun _ => hx.trans ?_⟩
      congr 1
      rcases hn with ⟨a, b⟩ | ⟨a, b⟩
      · rcases hn3 with ⟨c, d⟩ | ⟨c, d⟩
        · rw [b, d]
        · rw [a] at c; exact absurd c (by decide)
      · rcases hn3 with ⟨c, d⟩ | ⟨c, d⟩
        · rw [a] at c; exact absurd c (by decide)
        · rw [b, d]
    · rcases hn with ⟨a, _⟩ | ⟨a, _⟩
      · exact absurd a hn0
      · exact absurd a hn1
  · dsimp only at e0
    subst e0
    rcases h' with ⟨mR2, mF2, dk3, ds3, hdf, hn3, rfl⟩ | ⟨_, _, rfl⟩
    · rcases hn3 with ⟨a, _⟩ | ⟨a, _⟩
      · exact absurd a hn0
      · exact absurd a hn1
    · exact ⟨rfl, ⟨c0, rfl, rfl, hg, hsv, hm⟩, fun q => absurd q (by decide)⟩
set_option maxHeartbeats 1000000 in
theorem p_value (hg : g_ok c0 fO fA fB fT) (hsv : sv = 0 ∨ (sv = 1 ∧ g_sv c0 fO fA fB fT rs dk ds fL fl fh)) (hm : m_rel c0 fO fA fB fT mO mG mH mM mN mT) {n r b9 : Int32} {u : (GS × (Nat → Int64))} {v : MS} (h : (r = 0 ∧ ∃ x9 : Int32, (g_nd c0 fO fA fB fT ∧ (∃ ds2, g_SV c0 fO fA fB fT 0 ds2 u.1) ∧ ∃ k, k < c0 ∧ n = nI k ∧ gre c0 fO fA fB fT k ∧ x9.toInt = gval c0 fO fA fB fT k) ∧ u.2 (Int32.toNatClampNeg 0) = x9.toInt64) ∨ (r = 1 ∧ (∃ dk2 ds2, dk2 ≠ 0 ∧ g_SV c0 fO fA fB fT dk2 ds2 u.1)) ∨ (r = 2 ∧ ((∃ ds2, g_SV c0 fO fA fB fT 0 ds2 u.1) ∧ ∀ k, k < c0 → n = nI k → ¬ gre c0 fO fA fB fT k))) (h' : (∃ (fR2 fF2 fK2 fV2 fE2 : Nat → Int32) (k : Nat) (dk : Int32), g_df c0 (s_re c0 (gmv fO fA fB) (gtg fT)) (fun n => s_to c0 (gmv fO fA fB) (gtg fT) n n) (g_dn fO fA fB) dk (-1) ∧ k < c0 ∧ n = nI k ∧ gre c0 fO fA fB fT k ∧ b9.toInt = gval c0 fO fA fB fT k ∧ v = ((nI c0), mO, mG, mH, mM, mN, mT, fR2, fF2, fK2, fV2, fE2, 0)) ∨ (∃ (fR2 fF2 : Nat → Int32) (dk ds : Int32), g_df c0 (s_re c0 (gmv fO fA fB) (gtg fT)) (fun n => s_to c0 (gmv fO fA fB) (gtg fT) n n) (g_dn fO fA fB) dk ds ∧ ¬ ds = -1 ∧ v = ((nI c0), mO, mG, mH, mM, mN, mT, fR2, fF2, mK, mV, mE, 1)) ∨ (∃ (fR2 fF2 : Nat → Int32) (dk : Int32), g_df c0 (s_re c0 (gmv fO fA fB) (gtg fT)) (fun n => s_to c0 (gmv fO fA fB) (gtg fT) n n) (g_dn fO fA fB) dk (-1) ∧ (∀ k, k < c0 → n = nI k → ¬ gre c0 fO fA fB fT k) ∧ v = ((nI c0), mO, mG, mH, mM, mN, mT, fR2, fF2, mK, mV, mE, 2))) : v.2.2.2.2.2.2.2.2.2.2.2.2 = r ∧ L_I u.1 v ∧ (r = 0 → u.2 (Int32.toNatClampNeg 0) = b9.toInt64) := by
  have h60 := hg.2.1
  obtain ⟨u1, fo⟩ := u
  rcases h with ⟨rfl, x9, ⟨hnd, ⟨ds2, fC2, rs2, fL2, fl2, fh2, hs, e0⟩, k, hk, rfl, hre, ha⟩, hx⟩ | ⟨rfl, dk2, ds2, hd2, fC2, rs2, fL2, fl2, fh2, hs, e0⟩ | ⟨rfl, ⟨ds2, fC2, rs2, fL2, fl2, fh2, hs, e0⟩, hno⟩
  · dsimp only at e0
    subst e0
    rcases h' with ⟨mR2, mF2, mK2, mV2, mE2, k2, dk3, hdf, hk2, e, hre2, hb, rfl⟩ | ⟨mR2, mF2, dk3, ds3, hdf, hne, rfl⟩ | ⟨mR2, mF2, dk3, hdf, hno, rfl⟩
    · have e2 := k_inj (by omega) (by omega) e
      subst e2
      exact ⟨rfl, ⟨c0, rfl, rfl, hg, Or.inr ⟨rfl, hs⟩, hm⟩, fun _ => hx.trans (by congr 1; exact Int32.toInt_inj.mp (ha.trans hb.symm))⟩
    · exact absurd ((m_df_u hs.2.1 hdf).2.symm.trans (l_df0 hs.2.1)) hne
    · exact absurd hre (hno k hk rfl)
  · dsimp only at e0
    subst e0
    rcases h' with ⟨mR2, mF2, mK2, mV2, mE2, k2, dk3, hdf, hk2, e, hre2, hb, rfl⟩ | ⟨mR2, mF2, dk3, ds3, hdf, hne, rfl⟩ | ⟨mR2, mF2, dk3, hdf, hno, rfl⟩
    · exact absurd ((m_df_u hs.2.1 hdf).1.trans (m_df_0 h60 hdf rfl)) hd2
    · exact ⟨rfl, ⟨c0, rfl, rfl, hg, Or.inr ⟨rfl, hs⟩, hm⟩, fun q => absurd q (by decide)⟩
    · exact absurd ((m_df_u hs.2.1 hdf).1.trans (m_df_0 h60 hdf rfl)) hd2
  · dsimp only at e0
    subst e0
    rcases h' with ⟨mR2, mF2, mK2, mV2, mE2, k2, dk3, hdf, hk2, e, hre2, hb, rfl⟩ | ⟨mR2, mF2, dk3, ds3, hdf, hne, rfl⟩ | ⟨mR2, mF2, dk3, hdf, _, rfl⟩
    · exact absurd hre2 (hno k2 hk2 e)
    · exact absurd ((m_df_u hs.2.1 hdf).2.symm.trans (l_df0 hs.2.1)) hne
    · exact ⟨rfl, ⟨c0, rfl, rfl, hg, Or.inr ⟨rfl, hs⟩, hm⟩, fun q => absurd q (by decide)⟩
set_option maxHeartbeats 1000000 in
theorem p_length (hg : g_ok c0 fO fA fB fT) (hsv : sv = 0 ∨ (sv = 1 ∧ g_sv c0 fO fA fB fT rs dk ds fL fl fh)) (hm : m_rel c0 fO fA fB fT mO mG mH mM mN mT) {n r b9 : Int32} {u : (GS × (Nat → Int64))} {v : MS} (h : (r = 0 ∧ ∃ x9 : Int32, (g_nd c0 fO fA fB fT ∧ (∃ ds2, g_SV c0 fO fA fB fT 0 ds2 u.1) ∧ ∃ k, k < c0 ∧ n = nI k ∧ gre c0 fO fA fB fT k ∧ x9 = nI (glen c0 fO fA fB fT k)) ∧ u.2 (Int32.toNatClampNeg 0) = x9.toInt64) ∨ (r = 1 ∧ (∃ dk2 ds2, dk2 ≠ 0 ∧ g_SV c0 fO fA fB fT dk2 ds2 u.1)) ∨ (r = 2 ∧ ((∃ ds2, g_SV c0 fO fA fB fT 0 ds2 u.1) ∧ ∀ k, k < c0 → n = nI k → ¬ gre c0 fO fA fB fT k))) (h' : (∃ (fR2 fF2 fK2 fV2 fE2 : Nat → Int32) (k : Nat) (dk : Int32), g_df c0 (s_re c0 (gmv fO fA fB) (gtg fT)) (fun n => s_to c0 (gmv fO fA fB) (gtg fT) n n) (g_dn fO fA fB) dk (-1) ∧ k < c0 ∧ n = nI k ∧ gre c0 fO fA fB fT k ∧ b9 = nI (glen c0 fO fA fB fT k) ∧ v = ((nI c0), mO, mG, mH, mM, mN, mT, fR2, fF2, fK2, fV2, fE2, 0)) ∨ (∃ (fR2 fF2 : Nat → Int32) (dk ds : Int32), g_df c0 (s_re c0 (gmv fO fA fB) (gtg fT)) (fun n => s_to c0 (gmv fO fA fB) (gtg fT) n n) (g_dn fO fA fB) dk ds ∧ ¬ ds = -1 ∧ v = ((nI c0), mO, mG, mH, mM, mN, mT, fR2, fF2, mK, mV, mE, 1)) ∨ (∃ (fR2 fF2 : Nat → Int32) (dk : Int32), g_df c0 (s_re c0 (gmv fO fA fB) (gtg fT)) (fun n => s_to c0 (gmv fO fA fB) (gtg fT) n n) (g_dn fO fA fB) dk (-1) ∧ (∀ k, k < c0 → n = nI k → ¬ gre c0 fO fA fB fT k) ∧ v = ((nI c0), mO, mG, mH, mM, mN, mT, fR2, fF2, mK, mV, mE, 2))) : v.2.2.2.2.2.2.2.2.2.2.2.2 = r ∧ L_I u.1 v ∧ (r = 0 → u.2 (Int32.toNatClampNeg 0) = b9.toInt64) := by
  have h60 := hg.2.1
  obtain ⟨u1, fo⟩ := u
  rcases h with ⟨rfl, x9, ⟨hnd, ⟨ds2, fC2, rs2, fL2, fl2, fh2, hs, e0⟩, k, hk, rfl, hre, ha⟩, hx⟩ | ⟨rfl, dk2, ds2, hd2, fC2, rs2, fL2, fl2, fh2, hs, e0⟩ | ⟨rfl, ⟨ds2, fC2, rs2, fL2, fl2, fh2, hs, e0⟩, hno⟩
  · dsimp only at e0
    subst e0
    rcases h' with ⟨mR2, mF2, mK2, mV2, mE2, k2, dk3, hdf, hk2, e, hre2, hb, rfl⟩ | ⟨mR2, mF2, dk3, ds3, hdf, hne, rfl⟩ | ⟨mR2, mF2, dk3, hdf, hno, rfl⟩
    · have e2 := k_inj (by omega) (by omega) e
      subst e2
      exact ⟨rfl, ⟨c0, rfl, rfl, hg, Or.inr ⟨rfl, hs⟩, hm⟩, fun _ => hx.trans (by congr 1; exact ha.trans hb.symm)⟩
    · exact absurd ((m_df_u hs.2.1 hdf).2.symm.trans (l_df0 hs.2.1)) hne
    · exact absurd hre (hno k hk rfl)
  · dsimp only at e0
    subst e0
    rcases h' with ⟨mR2, mF2, mK2, mV2, mE2, k2, dk3, hdf, hk2, e, hre2, hb, rfl⟩ | ⟨mR2, mF2, dk3, ds3, hdf, hne, rfl⟩ | ⟨mR2, mF2, dk3, hdf, hno, rfl⟩
    · exact absurd ((m_df_u hs.2.1 hdf).1.trans (m_df_0 h60 hdf rfl)) hd2
    · exact ⟨rfl, ⟨c0, rfl, rfl, hg, Or.inr ⟨rfl, hs⟩, hm⟩, fun q => absurd q (by decide)⟩
    · exact absurd ((m_df_u hs.2.1 hdf).1.trans (m_df_0 h60 hdf rfl)) hd2
  · dsimp only at e0
    subst e0
    rcases h' with ⟨mR2, mF2, mK2, mV2, mE2, k2, dk3, hdf, hk2, e, hre2, hb, rfl⟩ | ⟨mR2, mF2, dk3, ds3, hdf, hne, rfl⟩ | ⟨mR2, mF2, dk3, hdf, _, rfl⟩
    · exact absurd hre2 (hno k2 hk2 e)
    · exact absurd ((m_df_u hs.2.1 hdf).2.symm.trans (l_df0 hs.2.1)) hne
    · exact ⟨rfl, ⟨c0, rfl, rfl, hg, Or.inr ⟨rfl, hs⟩, hm⟩, fun q => absurd q (by decide)⟩
theorem l_best {k : Nat} {x y : Int32} (h60 : c0 ≤ 60) (hg : g_ok c0 fO fA fB fT) (hk : k < c0) (ha : (∃ j, j < gmv fO fA fB k ∧ gval c0 fO fA fB fT (gtg fT k j) = gval c0 fO fA fB fT k ∧ (∀ i, i < j → gval c0 fO fA fB fT (gtg fT k i) ≠ gval c0 fO fA fB fT k) ∧ x = nI j) ∨ ((∀ i, i < gmv fO fA fB k → gval c0 fO fA fB fT (gtg fT k i) ≠ gval c0 fO fA fB fT k) ∧ x = -1)) (hb : (∃ j, j < gmv fO fA fB k ∧ gval c0 fO fA fB fT (gtg fT k j) = gval c0 fO fA fB fT k ∧ (∀ i, i < j → gval c0 fO fA fB fT (gtg fT k i) ≠ gval c0 fO fA fB fT k) ∧ y = nI j) ∨ ((∀ i, i < gmv fO fA fB k → gval c0 fO fA fB fT (gtg fT k i) ≠ gval c0 fO fA fB fT k) ∧ y = -1)) : x = y := by
  rcases ha with ⟨j, h1, h2, h3, rfl⟩ | ⟨h1, rfl⟩
  · rcases hb with ⟨j', g1, g2, g3, rfl⟩ | ⟨g1, rfl⟩
    · rcases Nat.lt_trichotomy j j' with q | q | q
      · exact absurd h2 (g3 j q)
      · rw [q]
      · exact absurd g2 (h3 j' q)
    · exact absurd h2 (g1 j h1)
  · rcases hb with ⟨j', g1, g2, g3, rfl⟩ | ⟨g1, rfl⟩
    · exact absurd g2 (h1 j' g1)
    · rfl
set_option maxHeartbeats 1000000 in
theorem p_best (hg : g_ok c0 fO fA fB fT) (hsv : sv = 0 ∨ (sv = 1 ∧ g_sv c0 fO fA fB fT rs dk ds fL fl fh)) (hm : m_rel c0 fO fA fB fT mO mG mH mM mN mT) {n r b9 : Int32} {u : (GS × (Nat → Int64))} {v : MS} (h : (r = 0 ∧ ∃ x9 : Int32, (g_nd c0 fO fA fB fT ∧ (∃ ds2, g_SV c0 fO fA fB fT 0 ds2 u.1) ∧ ∃ k, k < c0 ∧ n = nI k ∧ gre c0 fO fA fB fT k ∧ ((∃ j, j < gmv fO fA fB k ∧ gval c0 fO fA fB fT (gtg fT k j) = gval c0 fO fA fB fT k ∧ (∀ i, i < j → gval c0 fO fA fB fT (gtg fT k i) ≠ gval c0 fO fA fB fT k) ∧ x9 = nI j) ∨ ((∀ i, i < gmv fO fA fB k → gval c0 fO fA fB fT (gtg fT k i) ≠ gval c0 fO fA fB fT k) ∧ x9 = -1))) ∧ u.2 (Int32.toNatClampNeg 0) = x9.toInt64) ∨ (r = 1 ∧ (∃ dk2 ds2, dk2 ≠ 0 ∧ g_SV c0 fO fA fB fT dk2 ds2 u.1)) ∨ (r = 2 ∧ ((∃ ds2, g_SV c0 fO fA fB fT 0 ds2 u.1) ∧ ∀ k, k < c0 → n = nI k → ¬ gre c0 fO fA fB fT k))) (h' : (∃ (fR2 fF2 fK2 fV2 fE2 : Nat → Int32) (k : Nat) (dk : Int32), g_df c0 (s_re c0 (gmv fO fA fB) (gtg fT)) (fun n => s_to c0 (gmv fO fA fB) (gtg fT) n n) (g_dn fO fA fB) dk (-1) ∧ k < c0 ∧ n = nI k ∧ gre c0 fO fA fB fT k ∧ ((∃ j, j < gmv fO fA fB k ∧ gval c0 fO fA fB fT (gtg fT k j) = gval c0 fO fA fB fT k ∧ (∀ i, i < j → gval c0 fO fA fB fT (gtg fT k i) ≠ gval c0 fO fA fB fT k) ∧ b9 = nI j) ∨ ((∀ i, i < gmv fO fA fB k → gval c0 fO fA fB fT (gtg fT k i) ≠ gval c0 fO fA fB fT k) ∧ b9 = -1)) ∧ v = ((nI c0), mO, mG, mH, mM, mN, mT, fR2, fF2, fK2, fV2, fE2, 0)) ∨ (∃ (fR2 fF2 : Nat → Int32) (dk ds : Int32), g_df c0 (s_re c0 (gmv fO fA fB) (gtg fT)) (fun n => s_to c0 (gmv fO fA fB) (gtg fT) n n) (g_dn fO fA fB) dk ds ∧ ¬ ds = -1 ∧ v = ((nI c0), mO, mG, mH, mM, mN, mT, fR2, fF2, mK, mV, mE, 1)) ∨ (∃ (fR2 fF2 : Nat → Int32) (dk : Int32), g_df c0 (s_re c0 (gmv fO fA fB) (gtg fT)) (fun n => s_to c0 (gmv fO fA fB) (gtg fT) n n) (g_dn fO fA fB) dk (-1) ∧ (∀ k, k < c0 → n = nI k → ¬ gre c0 fO fA fB fT k) ∧ v = ((nI c0), mO, mG, mH, mM, mN, mT, fR2, fF2, mK, mV, mE, 2))) : v.2.2.2.2.2.2.2.2.2.2.2.2 = r ∧ L_I u.1 v ∧ (r = 0 → u.2 (Int32.toNatClampNeg 0) = b9.toInt64) := by
  have h60 := hg.2.1
  obtain ⟨u1, fo⟩ := u
  rcases h with ⟨rfl, x9, ⟨hnd, ⟨ds2, fC2, rs2, fL2, fl2, fh2, hs, e0⟩, k, hk, rfl, hre, ha⟩, hx⟩ | ⟨rfl, dk2, ds2, hd2, fC2, rs2, fL2, fl2, fh2, hs, e0⟩ | ⟨rfl, ⟨ds2, fC2, rs2, fL2, fl2, fh2, hs, e0⟩, hno⟩
  · dsimp only at e0
    subst e0
    rcases h' with ⟨mR2, mF2, mK2, mV2, mE2, k2, dk3, hdf, hk2, e, hre2, hb, rfl⟩ | ⟨mR2, mF2, dk3, ds3, hdf, hne, rfl⟩ | ⟨mR2, mF2, dk3, hdf, hno, rfl⟩
    · have e2 := k_inj (by omega) (by omega) e
      subst e2
      exact ⟨rfl, ⟨c0, rfl, rfl, hg, Or.inr ⟨rfl, hs⟩, hm⟩, fun _ => hx.trans (by congr 1; exact l_best h60 hg hk ha hb)⟩
    · exact absurd ((m_df_u hs.2.1 hdf).2.symm.trans (l_df0 hs.2.1)) hne
    · exact absurd hre (hno k hk rfl)
  · dsimp only at e0
    subst e0
    rcases h' with ⟨mR2, mF2, mK2, mV2, mE2, k2, dk3, hdf, hk2, e, hre2, hb, rfl⟩ | ⟨mR2, mF2, dk3, ds3, hdf, hne, rfl⟩ | ⟨mR2, mF2, dk3, hdf, hno, rfl⟩
    · exact absurd ((m_df_u hs.2.1 hdf).1.trans (m_df_0 h60 hdf rfl)) hd2
    · exact ⟨rfl, ⟨c0, rfl, rfl, hg, Or.inr ⟨rfl, hs⟩, hm⟩, fun q => absurd q (by decide)⟩
    · exact absurd ((m_df_u hs.2.1 hdf).1.trans (m_df_0 h60 hdf rfl)) hd2
  · dsimp only at e0
    subst e0
    rcases h' with ⟨mR2, mF2, mK2, mV2, mE2, k2, dk3, hdf, hk2, e, hre2, hb, rfl⟩ | ⟨mR2, mF2, dk3, ds3, hdf, hne, rfl⟩ | ⟨mR2, mF2, dk3, hdf, _, rfl⟩
    · exact absurd hre2 (hno k2 hk2 e)
    · exact absurd ((m_df_u hs.2.1 hdf).2.symm.trans (l_df0 hs.2.1)) hne
    · exact ⟨rfl, ⟨c0, rfl, rfl, hg, Or.inr ⟨rfl, hs⟩, hm⟩, fun q => absurd q (by decide)⟩
end LQ
