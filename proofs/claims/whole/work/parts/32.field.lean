/-! What stays true of the field's pool when meetings are made, filled and put in order. -/
/-- the walls and rays of the pool stay -/
def rf_keep (L : List Nat) (f : Nat → va_E) (L' : List Nat) (f' : Nat → va_E) : Prop := (∀ a, a ∈ L → a ∈ L') ∧ (∀ a w, a ∈ L → f a = e_W w → f' a = e_W w) ∧ (∀ a w, a ∈ L → f a = e_R w → f' a = e_R w)
theorem rf_keep.rfl' {L : List Nat} {f : Nat → va_E} : rf_keep L f L f := ⟨fun _ h => h, fun _ _ _ h => h, fun _ _ _ h => h⟩
theorem rf_keep.trans {L L' L'' : List Nat} {f f' f'' : Nat → va_E} (h : rf_keep L f L' f') (h' : rf_keep L' f' L'' f'') : rf_keep L f L'' f'' :=
  ⟨fun a q => h'.1 a (h.1 a q), fun a w q e => h'.2.1 a w (h.1 a q) (h.2.1 a w q e), fun a w q e => h'.2.2 a w (h.1 a q) (h.2.2 a w q e)⟩
theorem rf_keep.new {L : List Nat} {f : Nat → va_E} {q : Nat} {e : va_E} (hq : q ∉ L) : rf_keep L f (L ++ [q]) (va_up f q e) := by
  have ne : ∀ a, a ∈ L → a ≠ q := fun a h z => hq (z ▸ h)
  exact ⟨fun a h => List.mem_append_left _ h, fun a w h z => by rw [va_up_ne f e (ne a h)]; exact z, fun a w h z => by rw [va_up_ne f e (ne a h)]; exact z⟩
theorem rf_keep.fill {L : List Nat} {f : Nat → va_E} {q : Nat} {u : va_E} {n fr : Int32} {ds ad dv : Int64} (hq : f q = e_M n fr ds ad dv) : rf_keep L f L (va_up f q u) := by
  refine ⟨fun a h => h, fun a w h z => ?_, fun a w h z => ?_⟩
  · have : a ≠ q := by intro e; subst e; rw [hq] at z; cases z
    rw [va_up_ne f u this]; exact z
  · have : a ≠ q := by intro e; subst e; rw [hq] at z; cases z
    rw [va_up_ne f u this]; exact z
theorem rf_walls.keep {L L' : List Nat} {f f' : Nat → va_E} {wf : Nat → Option Nat} {wl : Nat → Option Q4} (h : rf_walls L f wf wl) (hk : rf_keep L f L' f') : rf_walls L' f' wf wl := h.mono hk.1 hk.2.1
theorem rf_mpool.new {L : List Nat} {f : Nat → va_E} {mf : Nat → Option Nat} {q n : Nat} {n1 f1 : Int32} {d1 a1 v1 : Int64} (h : rf_mpool L f mf) (hq : q ∉ L) (hn : mf n = none) : rf_mpool (L ++ [q]) (va_up f q (e_M n1 f1 d1 a1 v1)) (va_up mf n (some q)) := by
  have ne : ∀ a, a ∈ L → a ≠ q := fun a h z => hq (z ▸ h)
  refine ⟨fun j q' hj e => ?_, fun i j q' hi hj e1 e2 => ?_⟩
  · by_cases c : j = n
    · subst c
      rw [va_up_self] at e
      cases e
      exact ⟨List.mem_append_right _ (List.mem_singleton.mpr rfl), n1, f1, d1, a1, v1, va_up_self _ _ _⟩
    · rw [va_up_ne mf _ c] at e
      obtain ⟨h1, h2⟩ := h.1 j q' hj e
      refine ⟨List.mem_append_left _ h1, ?_⟩
      rw [va_up_ne f _ (ne q' h1)]
      exact h2
  · by_cases c1 : i = n <;> by_cases c2 : j = n
    · rw [c1, c2]
    · exfalso
      subst c1
      rw [va_up_self] at e1
      cases e1
      rw [va_up_ne mf _ c2] at e2
      exact hq (h.1 j q hj e2).1
    · exfalso
      subst c2
      rw [va_up_self] at e2
      cases e2
      rw [va_up_ne mf _ c1] at e1
      exact hq (h.1 i q hi e1).1
    · rw [va_up_ne mf _ c1] at e1
      rw [va_up_ne mf _ c2] at e2
      exact h.2 i j q' hi hj e1 e2
theorem rf_mpool.fill {L : List Nat} {f : Nat → va_E} {mf : Nat → Option Nat} {q : Nat} {u : va_E} (h : rf_mpool L f mf) (hu : ∃ n fr ds ad dv, u = e_M n fr ds ad dv) : rf_mpool L (va_up f q u) mf := by
  refine ⟨fun j q' hj e => ?_, h.2⟩
  obtain ⟨h1, h2⟩ := h.1 j q' hj e
  refine ⟨h1, ?_⟩
  by_cases c : q' = q
  · subst c
    obtain ⟨a, b, d, d1, d2, e2⟩ := hu
    exact ⟨a, b, d, d1, d2, by rw [va_up_self]; exact e2⟩
  · rw [va_up_ne f u c]; exact h2
theorem rf_mins_src {α : Type} (mf : Nat → Option α) (q : α) {n p j : Nat} (hp : p ≤ n) (hn : mf n = some q) : ∃ i, (j ≤ n → i ≤ n) ∧ (n < j → i = j) ∧ rf_mins mf (some q) n p j = mf i ∧ (i = n ↔ j = p) ∧ (j ≠ p → ((i = j ∧ (j < p ∨ n < j)) ∨ (p < j ∧ j ≤ n ∧ i + 1 = j))) := by
  unfold rf_mins
  by_cases h1 : j < p
  · exact ⟨j, by omega, by omega, by rw [if_pos h1], by omega, by omega⟩
  · by_cases h2 : j = p
    · exact ⟨n, by omega, by omega, by rw [if_neg h1, if_pos h2, hn], by omega, by omega⟩
    · by_cases h3 : j ≤ n
      · exact ⟨j - 1, by omega, by omega, by rw [if_neg h1, if_neg h2, if_pos h3], by omega, by omega⟩
      · exact ⟨j, by omega, by omega, by rw [if_neg h1, if_neg h2, if_neg h3], by omega, by omega⟩
theorem rf_mpool.sort {L : List Nat} {f : Nat → va_E} {mf : Nat → Option Nat} {q n p : Nat} (h : rf_mpool L f mf) (hn : n < 64) (hp : p ≤ n) (hq : mf n = some q) : rf_mpool L f (rf_mins mf (some q) n p) := by
  refine ⟨fun j q' hj e => ?_, fun i j q' hi hj e1 e2 => ?_⟩
  · obtain ⟨i, a1, a2, a3, _⟩ := rf_mins_src mf q (j := j) hp hq
    rw [a3] at e
    exact h.1 i q' (by omega) e
  · obtain ⟨i1, a1, a2, a3, a4, a5⟩ := rf_mins_src mf q (j := i) hp hq
    obtain ⟨j1, b1, b2, b3, b4, b5⟩ := rf_mins_src mf q (j := j) hp hq
    rw [a3] at e1
    rw [b3] at e2
    have e := h.2 i1 j1 q' (by omega) (by omega) e1 e2
    omega
theorem rf_meets.new {L : List Nat} {f : Nat → va_E} {mf : Nat → Option Nat} {wl : Nat → Option Q4} {r : Q4} {n : Nat} {g : Nat → Nat} {q : Nat} {e : va_E} (h : rf_meets L f mf wl r n g) (hq : q ∉ L) : rf_meets (L ++ [q]) (va_up f q e) (va_up mf n (some q)) wl r n g := by
  intro j hj
  obtain ⟨q', w, a1, a2, a3, a4⟩ := h j hj
  refine ⟨q', w, ?_, List.mem_append_left _ a2, a3, ?_⟩
  · rw [va_up_ne mf _ (by omega)]; exact a1
  · rw [va_up_ne f (k := q) (j := q') _ (fun z => hq (z ▸ a2))]; exact a4
theorem rf_meets.fill {L : List Nat} {f : Nat → va_E} {mf : Nat → Option Nat} {wl : Nat → Option Q4} {r : Q4} {n : Nat} {g : Nat → Nat} {q : Nat} {u : va_E} (h : rf_meets L f mf wl r n g) (hm : rf_mpool L f mf) (hn : n < 64) (hq : mf n = some q) : rf_meets L (va_up f q u) mf wl r n g := by
  intro j hj
  obtain ⟨q', w, a1, a2, a3, a4⟩ := h j hj
  have : q' ≠ q := by
    intro z
    subst z
    have := hm.2 j n q' (by omega) hn a1 hq
    omega
  exact ⟨q', w, a1, a2, a3, by rw [va_up_ne f u this]; exact a4⟩
theorem rf_meets.sort {L : List Nat} {f : Nat → va_E} {mf : Nat → Option Nat} {wl : Nat → Option Q4} {r : Q4} {n : Nat} {g : Nat → Nat} {q k p : Nat} {w : Q4} (h : rf_meets L f mf wl r n g) (hq : q ∈ L) (hp : p ≤ n) (hw : wl k = some w) (hf : f q = e_Mw k w r) : rf_meets L f (rf_mins mf (some q) n p) wl r (n + 1) (g_ins g p k) := by
  intro j hj
  unfold rf_mins g_ins
  by_cases h1 : j < p
  · rw [if_pos h1, if_pos h1]
    exact h j (by omega)
  · rw [if_neg h1, if_neg h1]
    by_cases h2 : j = p
    · rw [if_pos h2, if_pos h2]
      exact ⟨q, w, rfl, hq, hw, hf⟩
    · rw [if_neg h2, if_neg h2, if_pos (by omega)]
      exact h (j - 1) (by omega)
def rf_mt (wl : Nat → Option Q4) (r : Q4) (k : Nat) : Prop := ∃ w, wl k = some w ∧ m_met w r
theorem rf_mt.no {wl : Nat → Option Q4} {r w : Q4} {k : Nat} (h : wl k = some w) (h2 : ¬ m_met w r) : ¬ rf_mt wl r k := by
  rintro ⟨w', h1, h3⟩
  rw [h] at h1
  cases h1
  exact h2 h3
theorem rf_mt.no0 {wl : Nat → Option Q4} {r : Q4} {k : Nat} (h : wl k = none) : ¬ rf_mt wl r k := by
  rintro ⟨w', h1, h3⟩
  rw [h] at h1
  cases h1
theorem rf_isM {u : va_E} {P : Prop} {n fr n' fr' : Int32} {ds ad dv ds' ad' dv' : Int64} (h1 : P → u = e_M n fr ds ad dv) (h2 : ¬ P → u = e_M n' fr' ds' ad' dv') : ∃ n fr ds ad dv, u = e_M n fr ds ad dv := by
  by_cases h : P
  · exact ⟨_, _, _, _, _, h1 h⟩
  · exact ⟨_, _, _, _, _, h2 h⟩
theorem rf_neMW {f : Nat → va_E} {a b : Nat} {n fr : Int32} {ds ad dv : Int64} {w : Q4} (h1 : f a = e_M n fr ds ad dv) (h2 : f b = e_W w) : b ≠ a := by
  intro e; subst e; rw [h1] at h2; cases h2
theorem rf_neMR {f : Nat → va_E} {a b : Nat} {n fr : Int32} {ds ad dv : Int64} {w : Q4} (h1 : f a = e_M n fr ds ad dv) (h2 : f b = e_R w) : b ≠ a := by
  intro e; subst e; rw [h1] at h2; cases h2
theorem rf_neWR {f : Nat → va_E} {a b : Nat} {v w : Q4} (h1 : f a = e_W v) (h2 : f b = e_R w) : b ≠ a := by
  intro e; subst e; rw [h1] at h2; cases h2
/-- all that the field's cells say: walls wl, ray ra where there is one, its n met walls g 0, g 1 .. -/
def rf_CF (wl : Nat → Option Q4) (ra : Q4) (ry : Option Nat) (wf mf : Nat → Option Nat) (L : List Nat) (f : Nat → va_E) (n : Nat) (g : Nat → Nat) : Prop :=
  rf_walls L f wf wl ∧ rf_mpool L f mf ∧ (∀ q, ry = some q → q ∈ L ∧ f q = e_R ra) ∧ n ≤ 64 ∧ (ry = none → n = 0) ∧ rf_meets L f mf wl ra n g ∧ (∀ q, ry = some q → g_ok (rf_mt wl ra) (rf_nr wl ra) 64 n g)
theorem rf_CF.mk9 {wl : Nat → Option Q4} {ra : Q4} {ry : Option Nat} {wf : Nat → Option Nat} {L : List Nat} {f : Nat → va_E} {u : List Nat × (Nat → va_E) × (Nat → Option Nat) × Nat × (Nat → Nat)} (hw : rf_walls L f wf wl) (hry : ∀ q, ry = some q → q ∈ L ∧ f q = e_R ra)
    (h : rf_keep L f u.1 u.2.1 ∧ rf_mpool u.1 u.2.1 u.2.2.1 ∧ u.2.2.2.1 ≤ 64 ∧ ((ry = none ∧ u.2.2.2.1 = 0) ∨ (∃ q, ry = some q ∧ rf_meets u.1 u.2.1 u.2.2.1 wl ra u.2.2.2.1 u.2.2.2.2 ∧ g_ok (rf_mt wl ra) (rf_nr wl ra) 64 u.2.2.2.1 u.2.2.2.2))) :
    rf_CF wl ra ry wf u.2.2.1 u.1 u.2.1 u.2.2.2.1 u.2.2.2.2 := by
  obtain ⟨h1, h2, h3, h4⟩ := h
  refine ⟨hw.keep h1, h2, fun q e => ?_, h3, ?_, ?_, ?_⟩
  · obtain ⟨a, b⟩ := hry q e
    exact ⟨h1.1 q a, h1.2.2 q ra a b⟩
  · intro e
    rcases h4 with ⟨_, h⟩ | ⟨q, e2, _⟩
    · exact h
    · rw [e] at e2; cases e2
  · rcases h4 with ⟨_, h⟩ | ⟨q, _, h, _⟩
    · intro j hj; rw [h] at hj; exact absurd hj (Nat.not_lt_zero _)
    · exact h
  · intro q e
    rcases h4 with ⟨e2, _⟩ | ⟨_, _, _, h⟩
    · rw [e] at e2; cases e2
    · exact h
theorem rf_no_wall {wl : Nat → Option Q4} {i : Int32} (h : (∃ k, k < 64 ∧ i = nI k ∧ wl k = none) ∨ (∀ k, k < 64 → ¬ i = nI k)) : ∀ k w, k < 64 → i = nI k → ¬ wl k = some w := by
  intro k w hk ek e
  rcases h with ⟨j, hj, ej, h⟩ | h
  · have : k = j := nI_inj (by omega) (by omega) (ek.symm.trans ej)
    subst this
    rw [h] at e
    cases e
  · exact h k hk ek
theorem rf_walls.take {L : List Nat} {f : Nat → va_E} {wf : Nat → Option Nat} {wl : Nat → Option Q4} {k : Nat} (h : rf_walls L f wf wl) : rf_walls L f (va_up wf k none) (va_up wl k none) := by
  refine ⟨fun j hj => ?_, fun i j q hi hj e1 e2 => ?_⟩
  · by_cases c : j = k
    · subst c; exact Or.inl ⟨va_up_self _ _ _, va_up_self _ _ _⟩
    · rw [va_up_ne wf _ c, va_up_ne wl _ c]; exact h.1 j hj
  · by_cases c1 : i = k
    · subst c1; rw [va_up_self] at e1; cases e1
    · by_cases c2 : j = k
      · subst c2; rw [va_up_self] at e2; cases e2
      · rw [va_up_ne wf _ c1] at e1
        rw [va_up_ne wf _ c2] at e2
        exact h.2 i j q hi hj e1 e2
theorem rf_walls.turn {L : List Nat} {f : Nat → va_E} {wf : Nat → Option Nat} {wl : Nat → Option Q4} {k q : Nat} {w' : Q4} (h : rf_walls L f wf wl) (hk : k < 64) (hq : wf k = some q) (hL : q ∈ L) : rf_walls L (va_up f q (e_W w')) wf (va_up wl k (some w')) := by
  refine ⟨fun j hj => ?_, h.2⟩
  by_cases c : j = k
  · subst c
    exact Or.inr ⟨q, w', hq, va_up_self _ _ _, hL, va_up_self _ _ _⟩
  · rw [va_up_ne wl _ c]
    rcases h.1 j hj with h1 | ⟨q', w, a1, a2, a3, a4⟩
    · exact Or.inl h1
    · refine Or.inr ⟨q', w, a1, a2, a3, ?_⟩
      rw [va_up_ne f (k := q) (j := q') _ (fun z => c (h.2 j k q' hj hk a1 (z ▸ hq)))]
      exact a4
theorem rf_mpool.wall {L : List Nat} {f : Nat → va_E} {mf : Nat → Option Nat} {q : Nat} {u : va_E} {w : Q4} (h : rf_mpool L f mf) (hq : f q = e_W w) : rf_mpool L (va_up f q u) mf := by
  refine ⟨fun j q' hj e => ?_, h.2⟩
  obtain ⟨h1, n, fr, ds, ad, dv, h2⟩ := h.1 j q' hj e
  refine ⟨h1, n, fr, ds, ad, dv, ?_⟩
  rw [va_up_ne f _ (fun z => by subst z; rw [hq] at h2; cases h2)]
  exact h2
theorem rf_ry_wall {ry : Option Nat} {L : List Nat} {f : Nat → va_E} {ra w : Q4} {q : Nat} {u : va_E} (h : ∀ q, ry = some q → q ∈ L ∧ f q = e_R ra) (hq : f q = e_W w) : ∀ p, ry = some p → p ∈ L ∧ va_up f q u p = e_R ra := by
  intro p e
  obtain ⟨a, b⟩ := h p e
  refine ⟨a, ?_⟩
  rw [va_up_ne f _ (fun z => by subst z; rw [hq] at b; cases b)]
  exact b
theorem rf_walls.put {L : List Nat} {f : Nat → va_E} {wf : Nat → Option Nat} {wl : Nat → Option Q4} {k q : Nat} {w : Q4} (h : rf_walls L f wf wl) (hL : q ∈ L) (hf : f q = e_W w) (hn : ∀ j, j < 64 → ¬ wf j = some q) : rf_walls L f (va_up wf k (some q)) (va_up wl k (some w)) := by
  refine ⟨fun j hj => ?_, fun i j p hi hj e1 e2 => ?_⟩
  · by_cases c : j = k
    · subst c; exact Or.inr ⟨q, w, va_up_self _ _ _, va_up_self _ _ _, hL, hf⟩
    · rw [va_up_ne wf _ c, va_up_ne wl _ c]; exact h.1 j hj
  · by_cases c1 : i = k <;> by_cases c2 : j = k
    · rw [c1, c2]
    · exfalso
      subst c1
      rw [va_up_self] at e1
      cases e1
      rw [va_up_ne wf _ c2] at e2
      exact hn j hj e2
    · exfalso
      subst c2
      rw [va_up_self] at e2
      cases e2
      rw [va_up_ne wf _ c1] at e1
      exact hn i hi e1
    · rw [va_up_ne wf _ c1] at e1
      rw [va_up_ne wf _ c2] at e2
      exact h.2 i j p hi hj e1 e2
theorem rf_walls.fresh {L : List Nat} {f : Nat → va_E} {wf : Nat → Option Nat} {wl : Nat → Option Q4} {q : Nat} (h : rf_walls L f wf wl) (hq : q ∉ L) : ∀ j, j < 64 → ¬ wf j = some q := by
  intro j hj e
  obtain ⟨w, _, a, _⟩ := h.get hj e
  exact hq a
theorem rf_mpool.keep {L : List Nat} {f : Nat → va_E} {mf : Nat → Option Nat} {q : Nat} {e : va_E} (h : rf_mpool L f mf) (hq : q ∉ L) : rf_mpool (L ++ [q]) (va_up f q e) mf := by
  refine ⟨fun j q' hj z => ?_, h.2⟩
  obtain ⟨h1, h2⟩ := h.1 j q' hj z
  refine ⟨List.mem_append_left _ h1, ?_⟩
  rw [va_up_ne f (k := q) (j := q') _ (fun y => hq (y ▸ h1))]
  exact h2
theorem rf_ry_keep {ry : Option Nat} {L L' : List Nat} {f f' : Nat → va_E} {ra : Q4} (h : ∀ q, ry = some q → q ∈ L ∧ f q = e_R ra) (hk : rf_keep L f L' f') : ∀ q, ry = some q → q ∈ L' ∧ f' q = e_R ra := by
  intro q e
  obtain ⟨a, b⟩ := h q e
  exact ⟨hk.1 q a, hk.2.2 q ra a b⟩
theorem rf_CF.new {wl : Nat → Option Q4} {ra : Q4} {ry : Option Nat} {wf mf : Nat → Option Nat} {L : List Nat} {f : Nat → va_E} {n : Nat} {g : Nat → Nat} {q : Nat} {e : va_E} (h : rf_CF wl ra ry wf mf L f n g) (hq : q ∉ L) : rf_CF wl ra ry wf mf (L ++ [q]) (va_up f q e) n g := by
  obtain ⟨h1, h2, h3, h4, h5, h6, h7⟩ := h
  have hk : rf_keep L f (L ++ [q]) (va_up f q e) := rf_keep.new hq
  refine ⟨h1.keep hk, h2.keep hq, rf_ry_keep h3 hk, h4, h5, ?_, h7⟩
  intro j hj
  obtain ⟨q', w, a1, a2, a3, a4⟩ := h6 j hj
  exact ⟨q', w, a1, List.mem_append_left _ a2, a3, by rw [va_up_ne f (k := q) (j := q') _ (fun y => hq (y ▸ a2))]; exact a4⟩
theorem rf_walls.none' {L : List Nat} {f : Nat → va_E} {wf : Nat → Option Nat} (h : ∀ j, j < 64 → wf j = none) : rf_walls L f wf (fun _ => none) :=
  ⟨fun k hk => Or.inl ⟨h k hk, rfl⟩, fun i j q hi _ e => by rw [h i hi] at e; cases e⟩
/-- what put asks of a wall v that is to have the number k -/
def rf_putok (cl : Q4 → Q4 → Prop) (wl : Nat → Option Q4) (v : Q4) (k : Nat) : Prop := m_place v.1 v.2.1 2000 ∧ m_place v.2.2.1 v.2.2.2 2000 ∧ ¬ (v.1 = v.2.2.1 ∧ v.2.1 = v.2.2.2) ∧ k < 64 ∧ wl k = none ∧ (∀ j, j < k → ¬ wl j = none) ∧ ¬ ∃ j, j < 64 ∧ ∃ w, wl j = some w ∧ cl v w
