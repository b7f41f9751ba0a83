/-! A pool of objects: calls on some of them, new ones; what stays true of the field. -/
theorem rf_D_addr {A : Nat → Prop} {ws ws' : va_W} (h : va_D A ws) (e : ws'.map (·.1) = ws.map (·.1)) : va_D A ws' := by
  have key : ∀ (k : Nat) (q : Nat × va_E), ws'[k]? = some q → ∃ q0, ws[k]? = some q0 ∧ q0.1 = q.1 := by
    intro k q hk
    have h1 : (ws'.map (·.1))[k]? = some q.1 := by rw [List.getElem?_map, hk]; rfl
    rw [e, List.getElem?_map] at h1
    cases hq : ws[k]? with
    | none => rw [hq] at h1; cases h1
    | some q0 => rw [hq] at h1; exact ⟨q0, rfl, Option.some.inj h1⟩
  refine ⟨fun i j p q hi hj hpq => ?_, fun k q hk => ?_⟩
  · obtain ⟨p0, a1, a2⟩ := key i p hi
    obtain ⟨q0, b1, b2⟩ := key j q hj
    exact h.1 i j p0 q0 a1 b1 (by rw [a2, b2]; exact hpq)
  · obtain ⟨q0, a1, a2⟩ := key k q hk
    have := h.2 k q0 a1
    rw [a2] at this
    exact this
theorem rf_pl_addr (L : List Nat) (f f' : Nat → va_E) : (va_pl L f').map (·.1) = (va_pl L f).map (·.1) := by
  unfold va_pl
  rw [List.map_map, List.map_map]
  rfl
theorem rf_pl_in {L : List Nat} {f : Nat → va_E} {k : Nat} {q : Nat × va_E} (h : (va_pl L f)[k]? = some q) : q.1 ∈ L ∧ q.2 = f q.1 := by
  unfold va_pl at h
  rw [List.getElem?_map] at h
  cases hq : L[k]? with
  | none => rw [hq] at h; cases h
  | some a =>
    rw [hq] at h
    cases Option.some.inj h
    exact ⟨List.mem_of_getElem? hq, rfl⟩
/-- behind a call on cells of the pool -/
theorem rf_pool {A0 : Nat → Prop} {D : va_G} {cl : List vw_C} {X : va_W} {L : List Nat} {f : Nat → va_E} {H H1 : Heap} {wc : va_W} (hP : va_P D cl (X ++ va_pl L f) H) (hD : va_D A0 (X ++ va_pl L f)) (f' : Nat → va_E)
    (hc : ∀ (k : Nat) (q : Nat × va_E), wc[k]? = some q → q.1 ∈ L) (hk : ∀ q : Nat, q < H.size → ¬ va_A wc H.size q → H1[q]? = H[q]?)
    (h1 : ∀ (k : Nat) (q : Nat × va_E), wc[k]? = some q → va_at D cl (q.1, f' q.1) H1) (h2 : ∀ a, a ∈ L → (∀ (k : Nat) (q : Nat × va_E), wc[k]? = some q → ¬ q.1 = a) → f' a = f a) :
    va_P D cl (X ++ va_pl L f') H1 ∧ va_D A0 (X ++ va_pl L f') := by
  refine ⟨?_, rf_D_addr hD (by rw [List.map_append, List.map_append, rf_pl_addr L f f'])⟩
  have keep : ∀ (k : Nat) (q : Nat × va_E), (X ++ va_pl L f)[k]? = some q → (∀ (i : Nat) (p : Nat × va_E), wc[i]? = some p → ¬ p.1 = q.1) → va_at D cl q H1 := by
    intro k q hq hn
    have ha := hP k q hq
    refine ha.kept (hk q.1 ha.lt ?_)
    rintro (⟨i, e, hi⟩ | hi)
    · exact hn i _ hi rfl
    · exact absurd ha.lt (Nat.not_lt.mpr hi)
  intro k q hq
  rw [List.getElem?_append] at hq
  by_cases hx : k < X.length
  · rw [if_pos hx] at hq
    refine keep k q (by rw [List.getElem?_append, if_pos hx]; exact hq) ?_
    intro i p hi e
    obtain ⟨j, hj⟩ := va_pl_get (X := X) (f := f) (hc i p hi)
    have hj2 : X.length ≤ j := by
      apply Nat.not_lt.mp
      intro hlt
      have d := hD.1
      have : j = j := rfl
      have hqj := hj
      rw [List.getElem?_append, if_pos hlt] at hqj
      -- an address of X and of the pool
      obtain ⟨j2, hj2⟩ : ∃ j2, (X ++ va_pl L f)[X.length + j2]? = some (p.1, f p.1) := by
        obtain ⟨t, ht⟩ := List.getElem?_of_mem (hc i p hi)
        refine ⟨t, ?_⟩
        rw [List.getElem?_append, if_neg (by omega), Nat.add_sub_cancel_left]
        unfold va_pl
        rw [List.getElem?_map, ht]
        rfl
      have := d j (X.length + j2) _ _ hj hj2 rfl
      omega
    have := hD.1 k j q (p.1, f p.1) (by rw [List.getElem?_append, if_pos hx]; exact hq) hj e.symm
    omega
  · rw [if_neg hx] at hq
    obtain ⟨a1, a2⟩ := rf_pl_in hq
    obtain ⟨a, b⟩ := q
    dsimp only at a1 a2
    subst a2
    by_cases hin : ∃ (i : Nat) (p : Nat × va_E), wc[i]? = some p ∧ p.1 = a
    · obtain ⟨i, p, hi, e⟩ := hin
      have := h1 i p hi
      rw [e] at this
      exact this
    · have hn : ∀ (i : Nat) (p : Nat × va_E), wc[i]? = some p → ¬ p.1 = a := fun i p hi e => hin ⟨i, p, hi, e⟩
      rw [h2 a a1 hn]
      obtain ⟨j, hj⟩ := va_pl_get (X := X) (f := f) a1
      exact keep j _ hj hn
theorem rf_poolfree {A0 : Nat → Prop} {X : va_W} {L : List Nat} {f : Nat → va_E} {H0 H : Heap} {locs : List Loc} {wc : va_W} (hD : va_D A0 (X ++ va_pl L f)) (hS : va_S A0 H0 H locs) (hA : ∀ q, H0.size ≤ q → A0 q) (hc : ∀ (k : Nat) (q : Nat × va_E), wc[k]? = some q → q.1 ∈ L) : ∀ q, va_A wc H.size q → A0 q := by
  rintro q (⟨k, e, hk⟩ | hq)
  · obtain ⟨j, hj⟩ := va_pl_get (X := X) (f := f) (hc k _ hk)
    exact hD.2 j _ hj
  · exact hA q (Nat.le_trans hS.1 hq)
theorem rf_push {A0 : Nat → Prop} {D : va_G} {cl : List vw_C} {X : va_W} {L : List Nat} {f : Nat → va_E} {H : Heap} {q : Nat} {e : va_E} (hP : va_P D cl ((X ++ va_pl L f) ++ [(q, e)]) H) (hD : va_D A0 ((X ++ va_pl L f) ++ [(q, e)])) : q ∉ L ∧ va_P D cl (X ++ va_pl (L ++ [q]) (va_up f q e)) H ∧ va_D A0 (X ++ va_pl (L ++ [q]) (va_up f q e)) := by
  have hq := va_pl_fresh2 hD
  rw [List.append_assoc, va_pl_push hq] at hP hD
  exact ⟨hq, hP, hD⟩
theorem rf_walls.mono {L L' : List Nat} {f f' : Nat → va_E} {wf : Nat → Option Nat} {wl : Nat → Option Q4} (h : rf_walls L f wf wl) (hL : ∀ a, a ∈ L → a ∈ L') (hf : ∀ a w, a ∈ L → f a = e_W w → f' a = e_W w) : rf_walls L' f' wf wl := by
  refine ⟨fun k hk => ?_, h.2⟩
  rcases h.1 k hk with h1 | ⟨q, w, a1, a2, a3, a4⟩
  · exact Or.inl h1
  · exact Or.inr ⟨q, w, a1, a2, hL q a3, hf q w a3 a4⟩
section RfDown
variable {p : Program} {l : Launch} {e : Env} {R : Room} {s : State} {m : MethodId} {args : Array Value} {below : List Frame} {meth : Method} {c : Code} {H : Heap} {locs : List Loc} {cells slots : Nat} {Q : State → Prop} {ls : Array Slot}
/-- a loop that goes down -/
theorem rf_loopD (pc0 : Nat) (I : Nat → Array Slot → Heap → List Loc → Prop)
    (zero : ∀ (ls : Array Slot) (H : Heap) (locs : List Loc), I 0 ls H locs → W p l e R s m args below meth c H locs cells slots Q (F0 m pc0 ls []))
    (step : ∀ (a : Nat) (ls : Array Slot) (H : Heap) (locs : List Loc), I (a + 1) ls H locs → (∀ (ls' : Array Slot) (H' : Heap) (locs' : List Loc), I a ls' H' locs' → W p l e R s m args below meth c H' locs' cells slots Q (F0 m pc0 ls' [])) → W p l e R s m args below meth c H locs cells slots Q (F0 m pc0 ls []))
    (a : Nat) (h : I a ls H locs) : W p l e R s m args below meth c H locs cells slots Q (F0 m pc0 ls []) := by
  have key : ∀ (a : Nat) (ls : Array Slot) (H : Heap) (locs : List Loc), I a ls H locs → W p l e R s m args below meth c H locs cells slots Q (F0 m pc0 ls []) := by
    intro a
    induction a with
    | zero => exact zero
    | succ a ih => intro ls H locs h; exact step a ls H locs h ih
  exact key a ls H locs h
end RfDown
def rf_shift {α : Type} (mf : Nat → α) (n a : Nat) : Nat → α := fun j => if j ≤ a then mf j else if j ≤ n then mf (j - 1) else mf j
def rf_mins {α : Type} (mf : Nat → α) (v : α) (n p : Nat) : Nat → α := fun j => if j < p then mf j else if j = p then v else if j ≤ n then mf (j - 1) else mf j
theorem rf_shift_n {α : Type} (mf : Nat → α) (n : Nat) : rf_shift mf n n = mf := by
  funext j
  unfold rf_shift
  by_cases h : j ≤ n
  · rw [if_pos h]
  · rw [if_neg h, if_neg h]
theorem rf_shift_s {α : Type} (mf : Nat → α) (n a : Nat) (h : a + 1 ≤ n) : va_up (rf_shift mf n (a + 1)) (a + 1) (mf a) = rf_shift mf n a := by
  funext j
  unfold va_up rf_shift
  by_cases h1 : j = a + 1
  · subst h1
    rw [if_pos rfl, if_neg (by omega), if_pos h]
    rfl
  · rw [if_neg h1]
    by_cases h2 : j ≤ a
    · rw [if_pos (by omega), if_pos h2]
    · rw [if_neg (by omega), if_neg h2]
theorem rf_shift_e {α : Type} (mf : Nat → α) (v : α) (n a : Nat) : va_up (rf_shift mf n a) a v = rf_mins mf v n a := by
  funext j
  unfold va_up rf_shift rf_mins
  by_cases h1 : j = a
  · subst h1
    rw [if_pos rfl, if_neg (by omega), if_pos rfl]
  · rw [if_neg h1]
    by_cases h2 : j < a
    · rw [if_pos (by omega), if_pos h2]
    · rw [if_neg (by omega), if_neg h2, if_neg h1]
theorem rf_shift_at {α : Type} (mf : Nat → α) (n a : Nat) : rf_shift mf n (a + 1) a = mf a := by
  unfold rf_shift
  rw [if_pos (by omega)]
/-- the class's order: wall w before wall v on the ray r -/
def rf_nr (wl : Nat → Option Q4) (r : Q4) (k v : Nat) : Prop := ∃ wk wv, wl k = some wk ∧ wl v = some wv ∧ m_abs (m_p wk r) * m_abs (m_q wv r) < m_abs (m_p wv r) * m_abs (m_q wk r)
theorem rf_nr.no {wl : Nat → Option Q4} {r wk wv : Q4} {k v : Nat} (h1 : wl k = some wk) (h2 : wl v = some wv) (h : ¬ m_abs (m_p wk r) * m_abs (m_q wv r) < m_abs (m_p wv r) * m_abs (m_q wk r)) : ¬ rf_nr wl r k v := by
  rintro ⟨a, b, e1, e2, h3⟩
  rw [h1] at e1
  rw [h2] at e2
  cases e1
  cases e2
  exact h h3
theorem rf_D1 {q : Nat} {e : va_E} : va_D (fun _ => True) [(q, e)] := by
  refine ⟨fun i j p r hi hj _ => ?_, fun _ _ _ => trivial⟩
  match i, j, hi, hj with
  | 0, 0, _, _ => rfl
  | 0, j + 1, _, hj => simp at hj
  | i + 1, _, hi, _ => simp at hi
theorem rf_D3 {q q2 q3 : Nat} {e e2 e3 : va_E} (h2 : q2 ≠ q) (h3 : q3 ≠ q) (h4 : q3 ≠ q2) : va_D (fun _ => True) [(q, e), (q2, e2), (q3, e3)] := by
  refine ⟨fun i j p r hi hj hpr => ?_, fun _ _ _ => trivial⟩
  match i, j, hi, hj with
  | 0, 0, _, _ => rfl
  | 0, 1, hi, hj => cases hi; cases hj; exact absurd hpr.symm h2
  | 0, 2, hi, hj => cases hi; cases hj; exact absurd hpr.symm h3
  | 1, 0, hi, hj => cases hi; cases hj; exact absurd hpr h2
  | 1, 1, _, _ => rfl
  | 1, 2, hi, hj => cases hi; cases hj; exact absurd hpr.symm h4
  | 2, 0, hi, hj => cases hi; cases hj; exact absurd hpr h3
  | 2, 1, hi, hj => cases hi; cases hj; exact absurd hpr h4
  | 2, 2, _, _ => rfl
  | i + 3, _, hi, _ => simp at hi
  | _, j + 3, _, hj => simp at hj
theorem rf_mem1 {q : Nat} {e : va_E} {L : List Nat} (h : q ∈ L) : ∀ (k : Nat) (p : Nat × va_E), ([(q, e)] : va_W)[k]? = some p → p.1 ∈ L := by
  intro k p hk
  match k, hk with
  | 0, hk => cases hk; exact h
  | k + 1, hk => simp at hk
theorem rf_mem3 {q q2 q3 : Nat} {e e2 e3 : va_E} {L : List Nat} (h : q ∈ L) (h2 : q2 ∈ L) (h3 : q3 ∈ L) : ∀ (k : Nat) (p : Nat × va_E), ([(q, e), (q2, e2), (q3, e3)] : va_W)[k]? = some p → p.1 ∈ L := by
  intro k p hk
  match k, hk with
  | 0, hk => cases hk; exact h
  | 1, hk => cases hk; exact h2
  | 2, hk => cases hk; exact h3
  | k + 3, hk => simp at hk
theorem rf_pool1 {A0 : Nat → Prop} {D : va_G} {cl : List vw_C} {X : va_W} {L : List Nat} {f : Nat → va_E} {H H1 : Heap} {q : Nat} {e u : va_E} (hP : va_P D cl (X ++ va_pl L f) H) (hD : va_D A0 (X ++ va_pl L f)) (hq : q ∈ L) (hk : ∀ x : Nat, x < H.size → ¬ va_A [(q, e)] H.size x → H1[x]? = H[x]?) (hP1 : va_P D cl [(q, u)] H1) :
    va_P D cl (X ++ va_pl L (va_up f q u)) H1 ∧ va_D A0 (X ++ va_pl L (va_up f q u)) := by
  refine rf_pool (wc := [(q, e)]) hP hD (va_up f q u) (rf_mem1 hq) hk ?_ ?_
  · intro k p hk
    match k, hk with
    | 0, hk => cases hk; dsimp only; rw [va_up_self]; exact hP1 0 _ rfl
    | k + 1, hk => simp at hk
  · intro a _ h
    exact va_up_ne f u (fun z => h 0 (q, e) rfl z.symm)
theorem rf_pool3 {A0 : Nat → Prop} {D : va_G} {cl : List vw_C} {X : va_W} {L : List Nat} {f : Nat → va_E} {H H1 : Heap} {q q2 q3 : Nat} {e e2 e3 u : va_E} (hP : va_P D cl (X ++ va_pl L f) H) (hD : va_D A0 (X ++ va_pl L f)) (hq : q ∈ L) (hq2 : q2 ∈ L) (hq3 : q3 ∈ L) (n2 : q2 ≠ q) (n3 : q3 ≠ q) (f2 : f q2 = e2) (f3 : f q3 = e3)
    (hk : ∀ x : Nat, x < H.size → ¬ va_A [(q, e), (q2, e2), (q3, e3)] H.size x → H1[x]? = H[x]?) (hP1 : va_P D cl [(q, u), (q2, e2), (q3, e3)] H1) :
    va_P D cl (X ++ va_pl L (va_up f q u)) H1 ∧ va_D A0 (X ++ va_pl L (va_up f q u)) := by
  refine rf_pool (wc := [(q, e), (q2, e2), (q3, e3)]) hP hD (va_up f q u) (rf_mem3 hq hq2 hq3) hk ?_ ?_
  · intro k p hk
    match k, hk with
    | 0, hk => cases hk; dsimp only; rw [va_up_self]; exact hP1 0 _ rfl
    | 1, hk => cases hk; dsimp only; rw [va_up_ne f u n2, f2]; exact hP1 1 _ rfl
    | 2, hk => cases hk; dsimp only; rw [va_up_ne f u n3, f3]; exact hP1 2 _ rfl
    | k + 3, hk => simp at hk
  · intro a _ h
    exact va_up_ne f u (fun z => h 0 (q, e) rfl z.symm)
theorem rf_freeW {A0 : Nat → Prop} {ws : va_W} {H0 H : Heap} {locs : List Loc} (hD : va_D A0 ws) (hS : va_S A0 H0 H locs) (hA : ∀ q, H0.size ≤ q → A0 q) : ∀ q, va_A ws H.size q → A0 q := by
  rintro q (⟨k, e, hk⟩ | hq)
  · exact hD.2 k _ hk
  · exact hA q (Nat.le_trans hS.1 hq)
theorem rf_P3 {D : va_G} {cl : List vw_C} {H : Heap} {q q2 q3 : Nat} {e e2 e3 : va_E} (h : va_P D cl [(q, e)] H) (h2 : va_P D cl [(q2, e2)] H) (h3 : va_P D cl [(q3, e3)] H) : va_P D cl [(q, e), (q2, e2), (q3, e3)] H := (h.app h2).app h3
