/-! The class's cells, and what they say. -/
abbrev e_W (w : Q4) : va_E := .inr (0, [.int w.1, .int w.2.1, .int w.2.2.1, .int w.2.2.2])
abbrev e_R (w : Q4) : va_E := .inr (1, [.int w.1, .int w.2.1, .int w.2.2.1, .int w.2.2.2])
abbrev e_M (n fr : Int32) (ds ad dv : Int64) : va_E := .inr (2, [.int n, .int fr, .long ds, .long ad, .long dv])
abbrev e_F (wa ma : Nat) (wc mc : Int32) (ry : Option Nat) : va_E := .inr (3, [.ref wa, .int wc, va_rf ry, .ref ma, .int mc])
abbrev e_Q (c : ClassId) (f : Nat → Option Nat) : va_E := .inl (c, 64, .inr (.inr (.inr (.inr f))))
abbrev x_3 (x wa ma : Nat) (wc mc : Int32) (ry : Option Nat) (cW cM : ClassId) (wf mf : Nat → Option Nat) : va_W := [(x, e_F wa ma wc mc ry), (wa, e_Q cW wf), (ma, e_Q cM mf)]
abbrev x_t (cW cM : ClassId) : List (ClassId × FieldType) := [(cW, .object "RayField$Wall"), (cM, .object "RayField$Meeting")]
abbrev e_Mw (k : Nat) (w r : Q4) : va_E := e_M (nI k) (m_fr w r) (m_abs (m_p w r)) (m_abs (m_a w r)) (m_abs (m_q w r))
/-- the walls' array holds the walls wl -/
def rf_walls (L : List Nat) (f : Nat → va_E) (wf : Nat → Option Nat) (wl : Nat → Option Q4) : Prop :=
  (∀ k, k < 64 → (wf k = none ∧ wl k = none) ∨ ∃ q w, wf k = some q ∧ wl k = some w ∧ q ∈ L ∧ f q = e_W w) ∧ (∀ i j q, i < 64 → j < 64 → wf i = some q → wf j = some q → i = j)
/-- the first n of the meetings are those of the walls g 0, g 1 .. with the ray r -/
def rf_meets (L : List Nat) (f : Nat → va_E) (mf : Nat → Option Nat) (wl : Nat → Option Q4) (r : Q4) (n : Nat) (g : Nat → Nat) : Prop :=
  ∀ j, j < n → ∃ q w, mf j = some q ∧ q ∈ L ∧ wl (g j) = some w ∧ f q = e_Mw (g j) w r
/-- the meetings' array holds meetings, each once -/
def rf_mpool (L : List Nat) (f : Nat → va_E) (mf : Nat → Option Nat) : Prop :=
  (∀ j q, j < 64 → mf j = some q → q ∈ L ∧ ∃ n fr ds ad dv, f q = e_M n fr ds ad dv) ∧ (∀ i j q, i < 64 → j < 64 → mf i = some q → mf j = some q → i = j)
theorem rf_walls.non {L : List Nat} {f : Nat → va_E} {wf : Nat → Option Nat} {wl : Nat → Option Q4} (h : rf_walls L f wf wl) {k : Nat} (hk : k < 64) (e : wf k = none) : wl k = none := by
  rcases h.1 k hk with ⟨_, h1⟩ | ⟨q, w, h1, _⟩
  · exact h1
  · rw [e] at h1; cases h1
theorem rf_walls.get {L : List Nat} {f : Nat → va_E} {wf : Nat → Option Nat} {wl : Nat → Option Q4} (h : rf_walls L f wf wl) {k q : Nat} (hk : k < 64) (e : wf k = some q) : ∃ w, wl k = some w ∧ q ∈ L ∧ f q = e_W w := by
  rcases h.1 k hk with ⟨h1, _⟩ | ⟨q', w, h1, h2, h3, h4⟩
  · rw [e] at h1; cases h1
  · rw [e] at h1; cases h1; exact ⟨w, h2, h3, h4⟩
theorem rf_walls.iff {L : List Nat} {f : Nat → va_E} {wf : Nat → Option Nat} {wl : Nat → Option Q4} (h : rf_walls L f wf wl) {k : Nat} (hk : k < 64) : wf k = none ↔ wl k = none := by
  constructor
  · exact h.non hk
  · intro e
    rcases h.1 k hk with ⟨h1, _⟩ | ⟨q, w, _, h2, _⟩
    · exact h1
    · rw [e] at h2; cases h2
theorem rf_mt_some {L : List Nat} {f : Nat → va_E} {mf : Nat → Option Nat} {wl : Nat → Option Q4} {r : Q4} {n : Nat} {g : Nat → Nat} {i : Int32} {o : Option Nat} {q : Nat} (hM : rf_meets L f mf wl r n g) (h : (∃ k, k < n ∧ i = nI k ∧ o = mf k) ∨ ((∀ k, k < n → ¬ i = nI k) ∧ o = none)) (e : o = some q) : ∃ k w, k < n ∧ i = nI k ∧ q ∈ L ∧ wl (g k) = some w ∧ f q = e_Mw (g k) w r := by
  rcases h with ⟨k, hk, ek, h1⟩ | ⟨_, h1⟩
  · obtain ⟨q', w, a1, a2, a3, a4⟩ := hM k hk
    rw [e, a1] at h1
    cases h1
    exact ⟨k, w, hk, ek, a2, a3, a4⟩
  · rw [e] at h1; cases h1
theorem rf_mt_none {L : List Nat} {f : Nat → va_E} {mf : Nat → Option Nat} {wl : Nat → Option Q4} {r : Q4} {n : Nat} {g : Nat → Nat} {i : Int32} {o : Option Nat} (hM : rf_meets L f mf wl r n g) (h : (∃ k, k < n ∧ i = nI k ∧ o = mf k) ∨ ((∀ k, k < n → ¬ i = nI k) ∧ o = none)) (e : o = none) : ∀ k, k < n → ¬ i = nI k := by
  rcases h with ⟨k, hk, ek, h1⟩ | ⟨h1, _⟩
  · obtain ⟨q', w, a1, _⟩ := hM k hk
    rw [e, a1] at h1
    cases h1
  · exact h1
theorem m_fr_t {w r : Q4} (h : ¬ m_fr w r = 0) : m_p w r < 0 := by
  unfold m_fr at h
  by_cases q : m_p w r < 0
  · exact q
  · rw [if_neg q] at h; exact absurd rfl h
theorem m_fr_f {w r : Q4} (h : m_fr w r = 0) : ¬ m_p w r < 0 := by
  intro q
  unfold m_fr at h
  rw [if_pos q] at h
  exact absurd h (by decide)
theorem nI_inj {a b : Nat} (ha : a < 2 ^ 31) (hb : b < 2 ^ 31) (h : nI a = nI b) : a = b := (nI_eq ha hb).mp h
theorem rf_only {wl : Nat → Option Q4} {g : Nat → Nat} {n k : Nat} {i : Int32} {w : Q4} {P : Q4 → Prop} (hn : n ≤ 64) (hk : k < n) (ek : i = nI k) (hw : wl (g k) = some w) (hp : ¬ P w) : ¬ ∃ k', k' < n ∧ i = nI k' ∧ ∃ w', wl (g k') = some w' ∧ P w' := by
  rintro ⟨k', hk', ek', w', hw', hp'⟩
  have e : k = k' := nI_inj (by omega) (by omega) (ek.symm.trans ek')
  subst e
  rw [hw] at hw'
  cases hw'
  exact hp hp'
def m_of (o : Option Q4) (what : Int32) : Int32 := match o with
  | none => 100000
  | some w => if what = 0 then w.1 else if what = 1 then w.2.1 else if what = 2 then w.2.2.1 else if what = 3 then w.2.2.2 else 100000
theorem rf_ne_i {x : Int32} {k : Int32} (h : ¬ x = k) : ¬ x.toInt = k.toInt := fun e => h (Int32.toInt_inj.mp e)
theorem rf_sw4 {x : Int32} (h0 : ¬ x = 0) (h1 : ¬ x = 1) (h2 : ¬ x = 2) (h3 : ¬ x = 3) : x.toInt < 0 ∨ 3 < x.toInt := by
  have a0 : ¬ x.toInt = 0 := rf_ne_i h0
  have a1 : ¬ x.toInt = 1 := rf_ne_i h1
  have a2 : ¬ x.toInt = 2 := rf_ne_i h2
  have a3 : ¬ x.toInt = 3 := rf_ne_i h3
  omega
theorem rf_sw3 {x : Int32} (h0 : ¬ x = 0) (h1 : ¬ x = 1) (h2 : ¬ x = 2) : x.toInt < 0 ∨ 2 < x.toInt := by
  have a0 : ¬ x.toInt = 0 := rf_ne_i h0
  have a1 : ¬ x.toInt = 1 := rf_ne_i h1
  have a2 : ¬ x.toInt = 2 := rf_ne_i h2
  omega
theorem rf_wn_some {L : List Nat} {f : Nat → va_E} {wf : Nat → Option Nat} {wl : Nat → Option Q4} {i : Int32} {o : Option Nat} {q : Nat} (hw : rf_walls L f wf wl) (h : (∃ k, k < 64 ∧ i = nI k ∧ o = wf k) ∨ ((∀ k, k < 64 → ¬ i = nI k) ∧ o = none)) (e : o = some q) : ∃ k w, k < 64 ∧ i = nI k ∧ wf k = some q ∧ wl k = some w ∧ q ∈ L ∧ f q = e_W w := by
  rcases h with ⟨k, hk, ek, h1⟩ | ⟨_, h1⟩
  · rw [e] at h1
    obtain ⟨w, a1, a2, a3⟩ := hw.get hk h1.symm
    exact ⟨k, w, hk, ek, h1.symm, a1, a2, a3⟩
  · rw [e] at h1; cases h1
theorem rf_wn_none {L : List Nat} {f : Nat → va_E} {wf : Nat → Option Nat} {wl : Nat → Option Q4} {i : Int32} {o : Option Nat} (hw : rf_walls L f wf wl) (h : (∃ k, k < 64 ∧ i = nI k ∧ o = wf k) ∨ ((∀ k, k < 64 → ¬ i = nI k) ∧ o = none)) (e : o = none) : (∃ k, k < 64 ∧ i = nI k ∧ wl k = none) ∨ (∀ k, k < 64 → ¬ i = nI k) := by
  rcases h with ⟨k, hk, ek, h1⟩ | ⟨h1, _⟩
  · rw [e] at h1
    exact Or.inl ⟨k, hk, ek, hw.non hk h1.symm⟩
  · exact Or.inr h1
