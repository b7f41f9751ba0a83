/-! Small rows for the reference's face. -/
theorem k_met.dn {w r : Q4} (h : k_met w r) : ¬ k_dn w r = 0 := by
  intro e
  have q0 : m_q w r = 0 := by
    unfold k_dn at e
    by_cases c : m_q w r < 0
    · rw [if_pos c] at e
      have h2 : -(-(m_q w r)) = -(0 : Int64) := by rw [e]
      rwa [Int64.neg_neg, Int64.neg_zero] at h2
    · rwa [if_neg c] at e
  have e2 : m_b w r = m_a w r := by
    have h2 : m_b w r - m_a w r + m_a w r = 0 + m_a w r := by
      have : m_b w r - m_a w r = 0 := q0
      rw [this]
    rwa [Int64.sub_add_cancel, Int64.zero_add] at h2
  exact h.1 (by rw [e2])
theorem k_met.ab {w r : Q4} (h : k_met w r) : ¬ m_a w r - m_b w r = 0 := by
  intro e
  have e2 : m_a w r = m_b w r := by
    have h2 : m_a w r - m_b w r + m_b w r = 0 + m_b w r := by rw [e]
    rwa [Int64.sub_add_cancel, Int64.zero_add] at h2
  exact h.1 (by rw [e2])
abbrev rf_PG (wl : Nat → Option Q4) (ha : Int32) (r : Q4) (n : Nat) (g : Nat → Nat) (f : Nat → Int32) : Prop := n ≤ 64 ∧ (ha = 0 → n = 0) ∧ (¬ ha = 0 → g_ok (rf_kmt wl r) (rf_knr wl r) 64 n g) ∧ (∀ j, j < n → f j = nI (g j))
theorem rf_PG.at {wl : Nat → Option Q4} {ha : Int32} {r : Q4} {n : Nat} {g : Nat → Nat} {f : Nat → Int32} (h : rf_PG wl ha r n g f) {k : Nat} (hk : k < n) : f k = nI (g k) ∧ g k < 64 ∧ rf_kmt wl r (g k) := by
  have hh : ¬ ha = 0 := fun z => by have := h.2.1 z; omega
  have := g_ok_in (h.2.2.1 hh) k hk
  exact ⟨h.2.2.2 k hk, this.1, this.2⟩
theorem rf_kmt.get {wl : Nat → Option Q4} {f0 f1 f2 f3 f4 : Nat → Int32} (hY : rf_YF wl f0 f1 f2 f3 f4) {r : Q4} {k : Nat} (hk : k < 64) (h : rf_kmt wl r k) : wl k = some (f1 k, f2 k, f3 k, f4 k) ∧ k_met (f1 k, f2 k, f3 k, f4 k) r := by
  obtain ⟨w, h1, h2⟩ := h
  have := hY.got hk h1
  rw [h1] at this
  cases this
  exact ⟨h1, h2⟩
theorem rf_onlyk {wl : Nat → Option Q4} {g : Nat → Nat} {n k : Nat} {i : Int32} {w : Q4} {P : Q4 → Prop} (hn : n ≤ 64) (hk : k < n) (ek : i = nI k) (hw : wl (g k) = some w) (hp : ¬ P w) : ¬ ∃ k', k' < n ∧ i = nI k' ∧ ∃ w', wl (g k') = some w' ∧ P w' := rf_only hn hk ek hw hp
theorem k_ri_t {w r : Q4} (h : ¬ k_ri w r = 0) : k_p0 w r < 0 := by
  unfold k_ri at h
  by_cases q : k_p0 w r < 0
  · exact q
  · rw [if_neg q] at h; exact absurd rfl h
theorem k_ri_f {w r : Q4} (h : k_ri w r = 0) : ¬ k_p0 w r < 0 := by
  intro q
  unfold k_ri at h
  rw [if_pos q] at h
  exact absurd h (by decide)
