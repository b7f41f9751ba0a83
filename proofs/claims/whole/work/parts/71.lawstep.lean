/-! One step of the law: the writers of class and reference keep one state, and answer alike. -/
theorem ok_pl {x y re : Int32} {m : Int} (h1 : re.toInt = m) (h2 : (-re).toInt = -m) (h : m_place x y re) : ok_c x m ∧ ok_c y m := by
  obtain ⟨⟨a, b⟩, c, d⟩ := h
  rw [Int32.le_iff_toInt_le] at a b c d
  rw [h2] at a c
  rw [h1] at b d
  exact ⟨⟨a, b⟩, c, d⟩
theorem ok_new {V : Q4} (a : m_place V.1 V.2.1 2000) (b : m_place V.2.2.1 V.2.2.2 2000) (c : ¬ (V.1 = V.2.2.1 ∧ V.2.1 = V.2.2.2)) : ok_w V := by
  have h1 := ok_pl (m := 2000) (by decide) (by decide) a
  have h2 := ok_pl (m := 2000) (by decide) (by decide) b
  exact ⟨h1.1, h1.2, h2.1, h2.2, c⟩
theorem rf_putok_iff {wl : Nat → Option Q4} {V : Q4} {k : Nat} (hb : ∀ k w, k < 64 → wl k = some w → ok_w w) : rf_putok m_clash wl V k ↔ rf_putok (fun v w => ¬ k_apart v w) wl V k := by
  constructor
  · rintro ⟨a, b, c, d, e, f, g⟩
    refine ⟨a, b, c, d, e, f, ?_⟩
    rintro ⟨j, hj, w, hw, hc⟩
    exact g ⟨j, hj, w, hw, (p_clash (ok_new a b c) (hb j w hj hw)).mpr hc⟩
  · rintro ⟨a, b, c, d, e, f, g⟩
    refine ⟨a, b, c, d, e, f, ?_⟩
    rintro ⟨j, hj, w, hw, hc⟩
    exact g ⟨j, hj, w, hw, (p_clash (ok_new a b c) (hb j w hj hw)).mp hc⟩
theorem rf_putok_uniq {cl cl' : Q4 → Q4 → Prop} {wl : Nat → Option Q4} {V : Q4} {k j : Nat} (h : rf_putok cl wl V k) (h' : rf_putok cl' wl V j) : k = j := by
  obtain ⟨_, _, _, _, e1, f1, _⟩ := h
  obtain ⟨_, _, _, _, e2, f2, _⟩ := h'
  rcases Nat.lt_trichotomy k j with q | q | q
  · exact absurd e1 (f2 k q)
  · exact q
  · exact absurd e2 (f1 j q)
section LawStep
variable {wl : Nat → Option Q4} {ry : Option Nat} {wf mf : Nat → Option Nat} {L : List Nat} {f : Nat → va_E} {n : Nat} {g : Nat → Nat} {ha : Int32} {r : Q4} {f0 f1 f2 f3 f4 : Nat → Int32} {wc mn : Int32}
variable {wl' : Nat → Option Q4} {ry' : Option Nat} {ra' : Q4} {wf' mf' : Nat → Option Nat} {L' : List Nat} {f' : Nat → va_E} {n' : Nat} {g' : Nat → Nat} {f0' f1' f2' f3' f4' : Nat → Int32} {wc' mn' : Int32} {wl2 : Nat → Option Q4}
theorem rf_LW.to (h : rf_LW wl ry wf mf L f n g ha r f0 f1 f2 f3 f4 wc mn) (hcf : rf_CF wl' ra' ry' wf' mf' L' f' n' g') (hra : ra' = r) (hry : ry' = ry) (hyf : rf_YF wl2 f0' f1' f2' f3' f4') (hwl : wl2 = wl') (hw : wc' = mn') (hb : ∀ k w, k < 64 → wl' k = some w → ok_w w) : rf_LW wl' ry' wf' mf' L' f' n' g' ha r f0' f1' f2' f3' f4' wc' mn' := by
  subst hra
  subst hry
  subst hwl
  exact ⟨hcf, hyf, hw, h.2.2.2.1, h.2.2.2.2.1, hb⟩
theorem rf_bset {k : Nat} {o : Option Q4} (hb : ∀ k w, k < 64 → wl k = some w → ok_w w) (ho : ∀ w, o = some w → ok_w w) : ∀ j w, j < 64 → va_up wl k o j = some w → ok_w w := by
  intro j w hj h
  by_cases e : j = k
  · subst e; rw [va_up_self] at h; exact ho w h
  · rw [va_up_ne wl _ e] at h; exact hb j w hj h
theorem s_put (h : rf_LW wl ry wf mf L f n g ha r f0 f1 f2 f3 f4 wc mn) {V : Q4} {r1 r2 : Int32}
    (h1 : ((∃ k, rf_putok m_clash wl V k ∧ r1 = nI k ∧ wl' = va_up wl k (some V) ∧ wc' = wc + 1 ∧ ry' = ry ∧ ra' = r) ∨ ((∀ k, ¬ rf_putok m_clash wl V k) ∧ r1 = -1 ∧ wl' = wl ∧ wc' = wc ∧ ry' = ry ∧ ra' = r)) ∧ rf_CF wl' ra' ry' wf' mf' L' f' n' g')
    (h2 : ((∃ k, rf_putok (fun v w => ¬ k_apart v w) wl V k ∧ r2 = nI k ∧ wl2 = va_up wl k (some V) ∧ mn' = mn + 1) ∨ ((∀ k, ¬ rf_putok (fun v w => ¬ k_apart v w) wl V k) ∧ r2 = -1 ∧ wl2 = wl ∧ mn' = mn)) ∧ rf_YF wl2 f0' f1' f2' f3' f4') :
    r1 = r2 ∧ rf_LW wl' ry' wf' mf' L' f' n' g' ha r f0' f1' f2' f3' f4' wc' mn' := by
  have hb := h.2.2.2.2.2
  have hc := h.2.2.1
  obtain ⟨h1, cf⟩ := h1
  obtain ⟨h2, yf⟩ := h2
  rcases h1 with ⟨k, a1, a2, a3, a4, a5, a6⟩ | ⟨a1, a2, a3, a4, a5, a6⟩ <;> rcases h2 with ⟨j, b1, b2, b3, b4⟩ | ⟨b1, b2, b3, b4⟩
  · have e := rf_putok_uniq a1 b1
    subst e
    refine ⟨by rw [a2, b2], h.to cf a6 a5 yf (by rw [a3, b3]) (by rw [a4, b4, hc]) ?_⟩
    rw [a3]
    exact rf_bset hb (fun w e => by cases e; exact ok_new a1.1 a1.2.1 a1.2.2.1)
  · exact absurd ((rf_putok_iff hb).mp a1) (b1 k)
  · exact absurd ((rf_putok_iff hb).mpr b1) (a1 j)
  · refine ⟨by rw [a2, b2], h.to cf a6 a5 yf (by rw [a3, b3]) (by rw [a4, b4, hc]) ?_⟩
    rw [a3]
    exact hb
theorem s_take (h : rf_LW wl ry wf mf L f n g ha r f0 f1 f2 f3 f4 wc mn) {i r1 r2 : Int32}
    (h1 : ((∃ k w, k < 64 ∧ i = nI k ∧ wl k = some w ∧ r1 = 1 ∧ wl' = va_up wl k none ∧ wc' = wc - 1 ∧ ry' = ry ∧ ra' = r) ∨ ((∀ k w, k < 64 → i = nI k → ¬ wl k = some w) ∧ r1 = 0 ∧ wl' = wl ∧ wc' = wc ∧ ry' = ry ∧ ra' = r)) ∧ rf_CF wl' ra' ry' wf' mf' L' f' n' g')
    (h2 : ((∃ k w, k < 64 ∧ i = nI k ∧ wl k = some w ∧ r2 = 1 ∧ wl2 = va_up wl k none ∧ mn' = mn - 1) ∨ ((∀ k w, k < 64 → i = nI k → ¬ wl k = some w) ∧ r2 = 0 ∧ wl2 = wl ∧ mn' = mn)) ∧ rf_YF wl2 f0' f1' f2' f3' f4') :
    r1 = r2 ∧ rf_LW wl' ry' wf' mf' L' f' n' g' ha r f0' f1' f2' f3' f4' wc' mn' := by
  have hb := h.2.2.2.2.2
  have hc := h.2.2.1
  obtain ⟨h1, cf⟩ := h1
  obtain ⟨h2, yf⟩ := h2
  rcases h1 with ⟨k, w, k1, k2, k3, a2, a3, a4, a5, a6⟩ | ⟨a1, a2, a3, a4, a5, a6⟩ <;> rcases h2 with ⟨j, v, j1, j2, j3, b2, b3, b4⟩ | ⟨b1, b2, b3, b4⟩
  · have e : k = j := nI_inj (by omega) (by omega) (k2.symm.trans j2)
    subst e
    refine ⟨by rw [a2, b2], h.to cf a6 a5 yf (by rw [a3, b3]) (by rw [a4, b4, hc]) ?_⟩
    rw [a3]
    exact rf_bset hb (fun w e => by cases e)
  · exact absurd k3 (b1 k w k1 k2)
  · exact absurd j3 (a1 j v j1 j2)
  · refine ⟨by rw [a2, b2], h.to cf a6 a5 yf (by rw [a3, b3]) (by rw [a4, b4, hc]) ?_⟩
    rw [a3]
    exact hb
theorem s_turn (h : rf_LW wl ry wf mf L f n g ha r f0 f1 f2 f3 f4 wc mn) {i r1 r2 : Int32}
    (h1 : ((∃ k w, k < 64 ∧ i = nI k ∧ wl k = some w ∧ r1 = 1 ∧ wl' = va_up wl k (some (w.2.2.1, w.2.2.2, w.1, w.2.1)) ∧ wc' = wc ∧ ry' = ry ∧ ra' = r) ∨ ((∀ k w, k < 64 → i = nI k → ¬ wl k = some w) ∧ r1 = 0 ∧ wl' = wl ∧ wc' = wc ∧ ry' = ry ∧ ra' = r)) ∧ rf_CF wl' ra' ry' wf' mf' L' f' n' g')
    (h2 : ((∃ k w, k < 64 ∧ i = nI k ∧ wl k = some w ∧ r2 = 1 ∧ wl2 = va_up wl k (some (w.2.2.1, w.2.2.2, w.1, w.2.1)) ∧ mn' = mn) ∨ ((∀ k w, k < 64 → i = nI k → ¬ wl k = some w) ∧ r2 = 0 ∧ wl2 = wl ∧ mn' = mn)) ∧ rf_YF wl2 f0' f1' f2' f3' f4') :
    r1 = r2 ∧ rf_LW wl' ry' wf' mf' L' f' n' g' ha r f0' f1' f2' f3' f4' wc' mn' := by
  have hb := h.2.2.2.2.2
  have hc := h.2.2.1
  obtain ⟨h1, cf⟩ := h1
  obtain ⟨h2, yf⟩ := h2
  rcases h1 with ⟨k, w, k1, k2, k3, a2, a3, a4, a5, a6⟩ | ⟨a1, a2, a3, a4, a5, a6⟩ <;> rcases h2 with ⟨j, v, j1, j2, j3, b2, b3, b4⟩ | ⟨b1, b2, b3, b4⟩
  · have e : k = j := nI_inj (by omega) (by omega) (k2.symm.trans j2)
    subst e
    rw [k3] at j3
    cases j3
    refine ⟨by rw [a2, b2], h.to cf a6 a5 yf (by rw [a3, b3]) (by rw [a4, b4, hc]) ?_⟩
    rw [a3]
    refine rf_bset hb (fun z e => ?_)
    cases e
    have q := hb k w k1 k3
    exact ⟨q.2.2.1, q.2.2.2.1, q.1, q.2.1, fun z => q.2.2.2.2 ⟨z.1.symm, z.2.symm⟩⟩
  · exact absurd k3 (b1 k w k1 k2)
  · exact absurd j3 (a1 j v j1 j2)
  · refine ⟨by rw [a2, b2], h.to cf a6 a5 yf (by rw [a3, b3]) (by rw [a4, b4, hc]) ?_⟩
    rw [a3]
    exact hb
theorem s_clear (h : rf_LW wl ry wf mf L f n g ha r f0 f1 f2 f3 f4 wc mn)
    (h1 : (wl' = (fun _ => none) ∧ wc' = 0 ∧ ry' = ry ∧ ra' = r) ∧ rf_CF wl' ra' ry' wf' mf' L' f' n' g')
    (h2 : (wl2 = (fun _ => none) ∧ mn' = 0) ∧ rf_YF wl2 f0' f1' f2' f3' f4') :
    rf_LW wl' ry' wf' mf' L' f' n' g' ha r f0' f1' f2' f3' f4' wc' mn' := by
  obtain ⟨⟨a1, a2, a3, a4⟩, cf⟩ := h1
  obtain ⟨⟨b1, b2⟩, yf⟩ := h2
  refine h.to cf a4 a3 yf (by rw [a1, b1]) (by rw [a2, b2]) ?_
  intro k w _ e
  rw [a1] at e
  cases e
theorem s_ray (h : rf_LW wl ry wf mf L f n g ha r f0 f1 f2 f3 f4 wc mn) {a1 a2 b1 b2 r1 r2 ha' : Int32} {r' : Q4}
    (h1 : ((m_place a1 a2 4000 ∧ m_place b1 b2 20000 ∧ ¬ (b1 = 0 ∧ b2 = 0) ∧ r1 = 1 ∧ wl' = wl ∧ wc' = wc ∧ (∃ q, ry' = some q) ∧ ra' = (a1, a2, b1, b2)) ∨ (¬ (m_place a1 a2 4000 ∧ m_place b1 b2 20000 ∧ ¬ (b1 = 0 ∧ b2 = 0)) ∧ r1 = 0 ∧ wl' = wl ∧ wc' = wc ∧ ry' = ry ∧ ra' = r)) ∧ rf_CF wl' ra' ry' wf' mf' L' f' n' g')
    (h2 : ((m_place a1 a2 4000 ∧ m_place b1 b2 20000 ∧ ¬ (b1 = 0 ∧ b2 = 0)) ∧ r2 = 1 ∧ ha' = 1 ∧ r' = (a1, a2, b1, b2)) ∨ (¬ (m_place a1 a2 4000 ∧ m_place b1 b2 20000 ∧ ¬ (b1 = 0 ∧ b2 = 0)) ∧ r2 = 0 ∧ ha' = ha ∧ r' = r)) :
    r1 = r2 ∧ rf_LW wl' ry' wf' mf' L' f' n' g' ha' r' f0 f1 f2 f3 f4 wc' mn := by
  have hb := h.2.2.2.2.2
  have hc := h.2.2.1
  obtain ⟨h1, cf⟩ := h1
  rcases h1 with ⟨p1, p2, p3, c1, c2, c3, c4, c5⟩ | ⟨p1, c1, c2, c3, c4, c5⟩ <;> rcases h2 with ⟨q1, d1, d2, d3⟩ | ⟨q1, d1, d2, d3⟩
  · refine ⟨by rw [c1, d1], ?_⟩
    subst c2
    rw [d3, ← c5]
    refine ⟨cf, h.2.1, by rw [c3, hc], Or.inr ⟨c4, d2⟩, ?_, hb⟩
    have o1 := ok_pl (m := 4000) (by decide) (by decide) p1
    have o2 := ok_pl (m := 20000) (by decide) (by decide) p2
    rw [c5]
    exact ⟨o1.1, o1.2, o2.1, o2.2⟩
  · exact absurd ⟨p1, p2, p3⟩ q1
  · exact absurd q1 p1
  · refine ⟨by rw [c1, d1], ?_⟩
    subst c2
    rw [d2, d3]
    exact h.to cf c5 c4 h.2.1 rfl (by rw [c3, hc]) hb
end LawStep
theorem rf_LW.zero : rf_LW (fun _ => none) none (fun _ => none) (fun _ => none) [] (fun _ => e_W (0, 0, 0, 0)) 0 (fun _ => 0) 0 (0, 0, 0, 0) (fun _ => 0) (fun _ => 0) (fun _ => 0) (fun _ => 0) (fun _ => 0) 0 0 := by
  refine ⟨⟨rf_walls.none' (fun _ _ => rfl), ⟨fun j q _ h => (by cases h), fun i j q _ _ h => (by cases h)⟩, fun q h => (by cases h), by omega, fun _ => rfl, fun j hj => absurd hj (Nat.not_lt_zero j), fun q h => (by cases h)⟩, rf_YF.none' (fun _ _ => rfl), rfl, Or.inl ⟨rfl, rfl⟩, ⟨⟨by decide, by decide⟩, ⟨by decide, by decide⟩, ⟨by decide, by decide⟩, ⟨by decide, by decide⟩⟩, fun k w _ h => (by cases h)⟩
theorem law_cmp {t Ln : Nat} (hL : Ln ≤ 2560) (ht : 5 * t ≤ Ln) : nI Ln - 5 < nI (5 * t) ↔ Ln < 5 * t + 5 := by
  rw [Int32.lt_iff_toInt_lt, nI_toInt (by omega), Int32.toInt_sub, nI_toInt (by omega)]
  have e : (5 : Int32).toInt = 5 := by decide
  rw [e, Int.bmod_eq_of_le (by omega) (by omega)]
  omega
