/-! Rows for the reference's writers. -/
theorem rf_YF.take {wl : Nat → Option Q4} {f0 f1 f2 f3 f4 : Nat → Int32} {k : Nat} (h : rf_YF wl f0 f1 f2 f3 f4) : rf_YF (va_up wl k none) (upd f0 k 0) f1 f2 f3 f4 := by
  intro j hj
  by_cases c : j = k
  · subst c; exact Or.inl ⟨pk_us, va_up_self _ _ _⟩
  · rw [pk_un c, va_up_ne wl _ c]; exact h j hj
theorem rf_YF.turn {wl : Nat → Option Q4} {f0 f1 f2 f3 f4 : Nat → Int32} {k : Nat} (h : rf_YF wl f0 f1 f2 f3 f4) (hk : ¬ f0 k = 0) (hk2 : k < 64) : rf_YF (va_up wl k (some (f3 k, f4 k, f1 k, f2 k))) f0 (upd f1 k (f3 k)) (upd f2 k (f4 k)) (upd f3 k (f1 k)) (upd f4 k (f2 k)) := by
  intro j hj
  by_cases c : j = k
  · subst c
    right
    rw [pk_us, pk_us, pk_us, pk_us, va_up_self]
    rcases h j hj with ⟨a, _⟩ | ⟨a, _⟩
    · exact absurd a hk
    · exact ⟨a, rfl⟩
  · rw [pk_un c, pk_un c, pk_un c, pk_un c, va_up_ne wl _ c]; exact h j hj
theorem rf_YF.fit {wl : Nat → Option Q4} {f0 f1 f2 f3 f4 : Nat → Int32} {k : Nat} {a b c d : Int32} (h : rf_YF wl f0 f1 f2 f3 f4) (hk : wl k = none) : rf_YF wl f0 (upd f1 k a) (upd f2 k b) (upd f3 k c) (upd f4 k d) := by
  intro j hj
  by_cases e : j = k
  · subst e
    rcases h j hj with h1 | ⟨_, h1⟩
    · exact Or.inl h1
    · rw [hk] at h1; cases h1
  · rw [pk_un e, pk_un e, pk_un e, pk_un e]; exact h j hj
theorem rf_YF.put {wl : Nat → Option Q4} {f0 f1 f2 f3 f4 : Nat → Int32} {k : Nat} {a b c d : Int32} (h : rf_YF wl f0 f1 f2 f3 f4) : rf_YF (va_up wl k (some (a, b, c, d))) (upd f0 k 1) (upd f1 k a) (upd f2 k b) (upd f3 k c) (upd f4 k d) := by
  intro j hj
  by_cases e : j = k
  · subst e
    right
    rw [pk_us, pk_us, pk_us, pk_us, pk_us, va_up_self]
    exact ⟨rfl, rfl⟩
  · rw [pk_un e, pk_un e, pk_un e, pk_un e, pk_un e, va_up_ne wl _ e]; exact h j hj
theorem rf_YF.none' {f0 f1 f2 f3 f4 : Nat → Int32} (h : ∀ j, j < 64 → f0 j = 0) : rf_YF (fun _ => none) f0 f1 f2 f3 f4 := fun k hk => Or.inl ⟨h k hk, rfl⟩
theorem rf_putx {wl : Nat → Option Q4} {f0 f1 f2 f3 f4 : Nat → Int32} {k i : Nat} {a b c d : Int32} (hY : rf_YF wl f0 f1 f2 f3 f4) (hk : wl k = none) (hi : i < 64) (h0 : ¬ f0 i = 0) {P : Q4 → Q4 → Prop} : P (upd f1 k a k, upd f2 k b k, upd f3 k c k, upd f4 k d k) (upd f1 k a i, upd f2 k b i, upd f3 k c i, upd f4 k d i) ↔ P (a, b, c, d) (f1 i, f2 i, f3 i, f4 i) := by
  have hne : i ≠ k := by
    intro e
    subst e
    have := hY.one hi h0
    rw [hk] at this
    cases this
  rw [pk_us, pk_us, pk_us, pk_us, pk_un hne, pk_un hne, pk_un hne, pk_un hne]
