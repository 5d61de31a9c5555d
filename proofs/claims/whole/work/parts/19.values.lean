/-! Lengths, bounds of values, what a survey leaves. -/
/-- settled, in round rd, those below n done -/
def g_ls (re : Nat → Prop) (len : Nat → Nat) (rd n : Nat) (set : Int64) (fL : Nat → Int32) : Prop := (∀ m, b_t set m = true ↔ re m ∧ len m < (if m < n then rd + 1 else rd)) ∧ ∀ m, re m → len m < (if m < n then rd + 1 else rd) → fL m = nI (len m)
theorem g_ls_no {re : Nat → Prop} {len : Nat → Nat} {rd n : Nat} {set : Int64} {fL : Nat → Int32} (h : g_ls re len rd n set fL) (hn : re n → ¬ len n = rd) : g_ls re len rd (n + 1) set fL := by
  have key : ∀ m, re m → (len m < (if m < n + 1 then rd + 1 else rd) ↔ len m < (if m < n then rd + 1 else rd)) := by
    intro m hm
    by_cases e : m = n
    · subst e
      have := hn hm
      rw [if_pos (by omega), if_neg (by omega)]; omega
    · by_cases q : m < n
      · rw [if_pos q, if_pos (by omega)]
      · rw [if_neg q, if_neg (by omega)]
  refine ⟨fun m => ?_, fun m hm hl => h.2 m hm ((key m hm).mp hl)⟩
  rw [h.1 m]
  exact ⟨fun ⟨a, b⟩ => ⟨a, (key m a).mpr b⟩, fun ⟨a, b⟩ => ⟨a, (key m a).mp b⟩⟩
theorem g_ls_yes {re : Nat → Prop} {len : Nat → Nat} {rd n : Nat} {set : Int64} {fL : Nat → Int32} (h : g_ls re len rd n set fL) (hn64 : n < 64) (hr : re n) (hn : len n = rd) : g_ls re len rd (n + 1) (set ||| ((1 : Int64) <<< ((nI n).toInt64 &&& 63))) (upd fL n (nI rd)) := by
  have key : ∀ m, m ≠ n → (len m < (if m < n + 1 then rd + 1 else rd) ↔ len m < (if m < n then rd + 1 else rd)) := by
    intro m e
    by_cases q : m < n
    · rw [if_pos q, if_pos (by omega)]
    · rw [if_neg q, if_neg (by omega)]
  refine ⟨fun m => ?_, fun m hm hl => ?_⟩
  · rw [b_t_or, b_t_1 hn64, Bool.or_eq_true, decide_eq_true_eq, h.1 m]
    by_cases e : m = n
    · subst e
      refine ⟨fun _ => ⟨hr, by rw [if_pos (by omega)]; omega⟩, fun _ => Or.inr rfl⟩
    · exact ⟨fun q => by rcases q with ⟨a, b⟩ | q; exact ⟨a, (key m e).mpr b⟩; exact absurd q e, fun ⟨a, b⟩ => Or.inl ⟨a, (key m e).mp b⟩⟩
  · by_cases e : m = n
    · subst e; rw [pk_us, hn]
    · rw [pk_un e]; exact h.2 m hm ((key m e).mp hl)
theorem g_ls_next {re : Nat → Prop} {len : Nat → Nat} {c rd : Nat} {set : Int64} {fL : Nat → Int32} (h : g_ls re len rd c set fL) (hc : ∀ m, re m → m < c) : g_ls re len (rd + 1) 0 set fL := by
  refine ⟨fun m => ?_, fun m hm hl => h.2 m hm (by rw [if_pos (hc m hm)]; rwa [if_neg (Nat.not_lt_zero _)] at hl)⟩
  rw [h.1 m]
  exact ⟨fun ⟨a, b⟩ => ⟨a, by rw [if_pos (hc m a)] at b; rw [if_neg (Nat.not_lt_zero _)]; exact b⟩, fun ⟨a, b⟩ => ⟨a, by rw [if_neg (Nat.not_lt_zero _)] at b; rw [if_pos (hc m a)]; exact b⟩⟩
/-- the row of comesTo lies in those settled before -/
theorem k_sub {x bs : Int64} {to re : Nat → Prop} {len : Nat → Nat} {rd : Nat} (hx : ∀ m, b_t x m = true ↔ to m) (hbs : ∀ m, b_t bs m = true ↔ re m ∧ len m < rd) (hre : ∀ m, to m → re m) : (x &&& (bs ^^^ (-1))) = 0 ↔ ∀ m, to m → len m < rd := by
  rw [b_t_sub]
  constructor
  · intro h m hm
    have hb := (hx m).mpr hm
    have h64 : m < 64 := by
      rcases Nat.lt_or_ge m 64 with q | q
      · exact q
      · rw [b_t_big q] at hb; cases hb
    exact ((hbs m).mp (h m h64 hb)).2
  · intro h j _ hj
    have ht := (hx j).mp hj
    exact (hbs j).mpr ⟨hre j ht, h j ht⟩
def gfi (fA : Nat → Int32) (n : Nat) : Bool := decide (1 < fA n)
def ggo (fA : Nat → Int32) (n : Nat) : Int := (fA n).toInt
def gval (c : Nat) (fO fA fB fT : Nat → Int32) (n : Nat) : Int := s_val (gmv fO fA fB) (gtg fT) (gfi fA) (ggo fA) c n
def glen (c : Nat) (fO fA fB fT : Nat → Int32) (n : Nat) : Nat := s_len (gmv fO fA fB) (gtg fT) c n
abbrev gre (c : Nat) (fO fA fB fT : Nat → Int32) (n : Nat) : Prop := s_re c (gmv fO fA fB) (gtg fT) n
abbrev gto (c : Nat) (fO fA fB fT : Nat → Int32) (n m : Nat) : Prop := s_to c (gmv fO fA fB) (gtg fT) n m
/-- bounds of the values of reached states -/
def g_bd (c : Nat) (fO fA fB fT fl fh : Nat → Int32) : Prop := ∀ m, gre c fO fA fB fT m → (fl m).toInt ≤ gval c fO fA fB fT m ∧ gval c fO fA fB fT m ≤ (fh m).toInt ∧ (fO m = 0 → fl m = fh m)
/-- no defect -/
def g_nd (c : Nat) (fO fA fB fT : Nat → Int32) : Prop := (∀ k, k < c → gre c fO fA fB fT k → g_dn fO fA fB k = 0) ∧ s_ac c (gmv fO fA fB) (gtg fT)
theorem g_nd_of {c : Nat} {fO fA fB fT : Nat → Int32} (hg : g_ok c fO fA fB fT) {ds : Int32} (h : g_df c (s_re c (gmv fO fA fB) (gtg fT)) (fun n => s_to c (gmv fO fA fB) (gtg fT) n n) (g_dn fO fA fB) 0 ds) : g_nd c fO fA fB fT := by
  rcases h with h | ⟨h1, h | ⟨h2, _, _⟩⟩
  · exact absurd rfl (g_d1_ne h)
  · exact absurd rfl (g_d2_ne h)
  · exact ⟨h1, fun n hn => h2 n (s_re_lt (g_sok hg) hn) hn⟩
/-- a reached state without a defect: an end with goals 0 .. 100, or open with moves, where not both choose -/
theorem g_nd_end {fO fA fB : Nat → Int32} {n : Nat} (h : g_dn fO fA fB n = 0) (hO : fO n = 0) (hA : (fA n).toInt ≤ 100) (hB : (fB n).toInt ≤ 100) (hA2 : -2 ≤ (fA n).toInt) (hB2 : -2 ≤ (fB n).toInt) : 0 ≤ (fA n).toInt ∧ (fA n).toInt ≤ 100 := by
  unfold g_dn at h
  rw [if_pos hO] at h
  by_cases q : fA n < 0 ∨ fB n < 0
  · rw [if_pos q] at h; exact absurd h (by decide)
  · have : ¬ fA n < 0 := fun e => q (Or.inl e)
    rw [Int32.lt_iff_toInt_lt, Int32.toInt_zero] at this
    omega
theorem g_nd_open {fO fA fB : Nat → Int32} {n : Nat} (h : g_dn fO fA fB n = 0) (hO : ¬ fO n = 0) : ¬ gmv fO fA fB n = 0 ∧ ¬ (1 < fA n ∧ 1 < fB n) := by
  unfold g_dn at h
  rw [if_neg hO] at h
  by_cases q : gmv fO fA fB n = 0
  · rw [if_pos q] at h; exact absurd h (by decide)
  · refine ⟨q, fun q2 => ?_⟩
    rw [if_neg q, if_pos q2] at h; exact absurd h (by decide)
theorem g_go {c : Nat} {fO fA fB fT : Nat → Int32} (hg : g_ok c fO fA fB fT) (hn : g_nd c fO fA fB fT) : s_go c (gmv fO fA fB) (gtg fT) (ggo fA) := by
  intro n hr h0
  have hl := s_re_lt (g_sok hg) hr
  have hd := hn.1 n hl hr
  by_cases hO : fO n = 0
  · obtain ⟨a, b, c', d⟩ := (hg.2.2 n hl).2.1 hO
    exact g_nd_end hd hO b d a c'
  · exact absurd h0 (g_nd_open hd hO).1
theorem g_val_b {c : Nat} {fO fA fB fT : Nat → Int32} (hg : g_ok c fO fA fB fT) (hn : g_nd c fO fA fB fT) {n : Nat} (hr : gre c fO fA fB fT n) : 0 ≤ gval c fO fA fB fT n ∧ gval c fO fA fB fT n ≤ 100 := s_val_b (g_sok hg) (g_go hg hn) c n hr
theorem g_val_end {c : Nat} {fO fA fB fT : Nat → Int32} (hg : g_ok c fO fA fB fT) (hn : g_nd c fO fA fB fT) {n : Nat} (hr : gre c fO fA fB fT n) (hO : fO n = 0) : gval c fO fA fB fT n = (fA n).toInt := by
  unfold gval
  rw [s_val_eq (g_sok hg) hn.2 hr, if_pos (show gmv fO fA fB n = 0 by unfold gmv; rw [if_pos hO])]
  rfl
theorem g_bd_0 {c : Nat} {fO fA fB fT fl fh : Nat → Int32} (hg : g_ok c fO fA fB fT) (hn : g_nd c fO fA fB fT) (hI : ∀ k, k < c → fl k = (if fO k = 0 then fA k else 0) ∧ fh k = (if fO k = 0 then fA k else 100)) : g_bd c fO fA fB fT fl fh := by
  intro m hm
  obtain ⟨h1, h2⟩ := hI m (s_re_lt (g_sok hg) hm)
  by_cases hO : fO m = 0
  · rw [if_pos hO] at h1 h2
    rw [h1, h2, g_val_end hg hn hm hO]
    exact ⟨Int.le_refl _, Int.le_refl _, fun _ => rfl⟩
  · rw [if_neg hO] at h1 h2
    rw [h1, h2]
    have := g_val_b hg hn hm
    have e1 : (0 : Int32).toInt = 0 := by decide
    have e2 : (100 : Int32).toInt = 100 := by decide
    rw [e1, e2]; exact ⟨this.1, this.2, fun q => absurd q hO⟩
/-- what a survey leaves -/
def g_sv (c : Nat) (fO fA fB fT : Nat → Int32) (rs : Int64) (dk ds : Int32) (fL fl fh : Nat → Int32) : Prop :=
  (∀ m, b_t rs m = true ↔ gre c fO fA fB fT m) ∧ g_df c (s_re c (gmv fO fA fB) (gtg fT)) (fun n => s_to c (gmv fO fA fB) (gtg fT) n n) (g_dn fO fA fB) dk ds ∧
    (dk = 0 → (∀ m, gre c fO fA fB fT m → fL m = nI (glen c fO fA fB fT m)) ∧ g_bd c fO fA fB fT fl fh)
