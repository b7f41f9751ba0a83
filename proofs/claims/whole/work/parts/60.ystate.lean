/-! The reference's cells, and what they say. -/
abbrev e_Y (t0 t1 t2 t3 t4 t5 : Nat) (ma ha ex ey dx dy : Int32) (ab be : Int64) (ri : Int32) (o1 o2 : Int64) : va_E := .inr (4, [.int 0, .ref t0, .ref t1, .ref t2, .ref t3, .ref t4, .int ma, .int ha, .int ex, .int ey, .int dx, .int dy, .long ab, .long be, .int ri, .long o1, .long o2, .ref t5])
abbrev e_I (c : ClassId) (f : Nat → Int32) : va_E := .inl (c, 64, .inl f)
abbrev y_7 (y t0 t1 t2 t3 t4 t5 : Nat) (c0 c1 c2 c3 c4 c5 : ClassId) (ma ha ex ey dx dy : Int32) (ab be : Int64) (ri : Int32) (o1 o2 : Int64) (f0 f1 f2 f3 f4 f5 : Nat → Int32) : va_W := [(y, e_Y t0 t1 t2 t3 t4 t5 ma ha ex ey dx dy ab be ri o1 o2), (t0, e_I c0 f0), (t1, e_I c1 f1), (t2, e_I c2 f2), (t3, e_I c3 f3), (t4, e_I c4 f4), (t5, e_I c5 f5)]
abbrev y_t (c0 c1 c2 c3 c4 c5 : ClassId) : List (ClassId × FieldType) := [(c0, .boolean), (c1, .int), (c2, .int), (c3, .int), (c4, .int), (c5, .int)]
/-- the reference's rows hold the walls wl -/
def rf_YF (wl : Nat → Option Q4) (f0 f1 f2 f3 f4 : Nat → Int32) : Prop := ∀ k, k < 64 → (f0 k = 0 ∧ wl k = none) ∨ (f0 k = 1 ∧ wl k = some (f1 k, f2 k, f3 k, f4 k))
theorem rf_YF.zero {wl : Nat → Option Q4} {f0 f1 f2 f3 f4 : Nat → Int32} (h : rf_YF wl f0 f1 f2 f3 f4) {k : Nat} (hk : k < 64) (e : f0 k = 0) : wl k = none := by
  rcases h k hk with ⟨_, h1⟩ | ⟨h1, _⟩
  · exact h1
  · rw [e] at h1; exact absurd h1 (by decide)
theorem rf_YF.one {wl : Nat → Option Q4} {f0 f1 f2 f3 f4 : Nat → Int32} (h : rf_YF wl f0 f1 f2 f3 f4) {k : Nat} (hk : k < 64) (e : ¬ f0 k = 0) : wl k = some (f1 k, f2 k, f3 k, f4 k) := by
  rcases h k hk with ⟨h1, _⟩ | ⟨_, h1⟩
  · exact absurd h1 e
  · exact h1
section RfJoinH
variable {p : Program} {l : Launch} {e : Env} {R : Room} {s : State} {m : MethodId} {args : Array Value} {below : List Frame} {meth : Method} {c : Code} {H : Heap} {locs : List Loc} {cells slots : Nat} {Q : State → Prop} {ls : Array Slot} {pc : Nat}
theorem rf_joinH {st : List Value} (pc2 : Nat) (st2 : List Value) (J : Heap → List Loc → Prop) (hj : ∀ (H : Heap) (locs : List Loc), J H locs → W p l e R s m args below meth c H locs cells slots Q (F0 m pc2 ls st2)) (k : (∀ (H : Heap) (locs : List Loc), J H locs → W p l e R s m args below meth c H locs cells slots Q (F0 m pc2 ls st2)) → W p l e R s m args below meth c H locs cells slots Q (F0 m pc ls st)) : W p l e R s m args below meth c H locs cells slots Q (F0 m pc ls st) := k hj
end RfJoinH
def k_ri (w r : Q4) : Int32 := if k_p0 w r < 0 then 1 else 0
/-- the reference's order: wall i before wall j -/
abbrev k_ah (wi wj r : Q4) (i j : Nat) : Prop := k_up wi r * k_dn wj r < k_up wj r * k_dn wi r ∨ (k_up wi r * k_dn wj r = k_up wj r * k_dn wi r ∧ nI i < nI j)
def rf_kmt (wl : Nat → Option Q4) (r : Q4) (k : Nat) : Prop := ∃ w, wl k = some w ∧ k_met w r
def rf_knr (wl : Nat → Option Q4) (r : Q4) (k v : Nat) : Prop := ∃ wk wv, wl k = some wk ∧ wl v = some wv ∧ k_up wk r * k_dn wv r < k_up wv r * k_dn wk r
theorem rf_knr.of {wl : Nat → Option Q4} {r wk wv : Q4} {k v : Nat} (h1 : wl k = some wk) (h2 : wl v = some wv) (hv : v < k) (hk : k < 64) (h : k_ah wk wv r k v) : rf_knr wl r k v := by
  rcases h with h | ⟨_, h⟩
  · exact ⟨wk, wv, h1, h2, h⟩
  · exact absurd h (nI_nlt (by omega) (by omega))
theorem rf_knr.no {wl : Nat → Option Q4} {r wk wv : Q4} {k v : Nat} (h1 : wl k = some wk) (h2 : wl v = some wv) (h : ¬ k_ah wk wv r k v) : ¬ rf_knr wl r k v := by
  rintro ⟨a, b, e1, e2, h3⟩
  rw [h1] at e1
  rw [h2] at e2
  cases e1
  cases e2
  exact h (Or.inl h3)
theorem rf_kmt.no {wl : Nat → Option Q4} {r w : Q4} {k : Nat} (h : wl k = some w) (h2 : ¬ k_met w r) : ¬ rf_kmt wl r k := by
  rintro ⟨w', h1, h3⟩
  rw [h] at h1
  cases h1
  exact h2 h3
theorem rf_kmt.no0 {wl : Nat → Option Q4} {r : Q4} {k : Nat} (h : wl k = none) : ¬ rf_kmt wl r k := by
  rintro ⟨w', h1, h3⟩
  rw [h] at h1
  cases h1
theorem upd_up {α : Nat → Int32} {k : Nat} {x : Int32} : upd α k x = va_up α k x := rfl
theorem rf_YF.got {wl : Nat → Option Q4} {f0 f1 f2 f3 f4 : Nat → Int32} (h : rf_YF wl f0 f1 f2 f3 f4) {k : Nat} (hk : k < 64) {w : Q4} (e : wl k = some w) : wl k = some (f1 k, f2 k, f3 k, f4 k) := by
  rcases h k hk with ⟨_, h1⟩ | ⟨_, h1⟩
  · rw [e] at h1; cases h1
  · exact h1
theorem rf_row_ins {f : Nat → Int32} {g : Nat → Nat} {n p k : Nat} (h : ∀ j, j < n → f j = nI (g j)) (hp : p ≤ n) : ∀ j, j < n + 1 → rf_mins f (nI k) n p j = nI (g_ins g p k j) := by
  intro j hj
  unfold rf_mins g_ins
  by_cases h1 : j < p
  · rw [if_pos h1, if_pos h1]; exact h j (by omega)
  · rw [if_neg h1, if_neg h1]
    by_cases h2 : j = p
    · rw [if_pos h2, if_pos h2]
    · rw [if_neg h2, if_neg h2, if_pos (by omega)]; exact h (j - 1) (by omega)
