/-! What the reference's object is: states, open, goalOne, goalTwo, movesOne, movesTwo, goes, reached, from, known, value, length, thrown. -/
abbrev MS : Type := Int32 × (Nat → Int32) × (Nat → Int32) × (Nat → Int32) × (Nat → Int32) × (Nat → Int32) × (Nat → Int32) × (Nat → Int32) × (Nat → Int32) × (Nat → Int32) × (Nat → Int32) × (Nat → Int32) × Int32
abbrev mw (ad : Nat → Nat) (cz ci cj : ClassId) (u : MS) : va_W := [(ad 0, .inr (1, [.int u.1, .ref (ad 1), .ref (ad 2), .ref (ad 3), .ref (ad 4), .ref (ad 5), .ref (ad 6), .ref (ad 7), .ref (ad 8), .ref (ad 9), .ref (ad 10), .ref (ad 11), .int u.2.2.2.2.2.2.2.2.2.2.2.2])), (ad 1, .inl (cz, 60, .inl u.2.1)), (ad 2, .inl (ci, 60, .inl u.2.2.1)), (ad 3, .inl (ci, 60, .inl u.2.2.2.1)), (ad 4, .inl (ci, 60, .inl u.2.2.2.2.1)), (ad 5, .inl (ci, 60, .inl u.2.2.2.2.2.1)), (ad 6, .inl (ci, 720, .inl u.2.2.2.2.2.2.1)), (ad 7, .inl (cz, 60, .inl u.2.2.2.2.2.2.2.1)), (ad 8, .inl (cz, 60, .inl u.2.2.2.2.2.2.2.2.1)), (ad 9, .inl (cz, 60, .inl u.2.2.2.2.2.2.2.2.2.1)), (ad 10, .inl (ci, 60, .inl u.2.2.2.2.2.2.2.2.2.2.1)), (ad 11, .inl (ci, 60, .inl u.2.2.2.2.2.2.2.2.2.2.2.1))]
/-- the reference holds the same graph -/
def m_rel (c : Nat) (sO sA sB sT fO fG fH fM fN fT : Nat → Int32) : Prop := ∀ n, n < c → fO n = sO n ∧ (sO n = 0 → fG n = sA n ∧ fH n = sB n) ∧ (¬ sO n = 0 → fM n = sA n ∧ fN n = sB n ∧ ∀ j, j < 12 → fT (n * 12 + j) = sT (n * 12 + j))
theorem m_mv {c : Nat} {sO sA sB sT fO fG fH fM fN fT : Nat → Int32} (hg : g_ok c sO sA sB sT) (h : m_rel c sO sA sB sT fO fG fH fM fN fT) {n : Nat} (hn : n < c) : (if fO n = 0 then (0 : Int32) else fM n * fN n) = nI (gmv sO sA sB n) ∧ gmv sO sA sB n ≤ 12 := by
  obtain ⟨h1, h2, h3⟩ := h n hn
  have hm := g_mvI hg hn
  rw [h1]
  by_cases h0 : sO n = 0
  · rw [if_pos h0] at hm ⊢; exact hm
  · rw [if_neg h0] at hm ⊢
    rw [(h3 h0).1, (h3 h0).2.1]; exact hm
theorem m_tg {c : Nat} {sO sA sB sT fO fG fH fM fN fT : Nat → Int32} (hg : g_ok c sO sA sB sT) (h : m_rel c sO sA sB sT fO fG fH fM fN fT) {n j : Nat} (hn : n < c) (hj : j < gmv sO sA sB n) : fT (n * 12 + j) = nI (gtg sT n j) ∧ gtg sT n j < c := by
  have h0 : ¬ sO n = 0 := fun e => by unfold gmv at hj; rw [if_pos e] at hj; omega
  have h12 := (g_mvI hg hn).2
  rw [((h n hn).2.2 h0).2.2 j (by omega)]
  exact g_tgI hg hn (by omega)
