/-! Class and reference give one answer. -/
/-- one state: the class's cells and the reference's hold the same walls and the same ray -/
def rf_LW (wl : Nat → Option Q4) (ry : Option Nat) (wf mf : Nat → Option Nat) (L : List Nat) (f : Nat → va_E) (n : Nat) (g : Nat → Nat) (ha : Int32) (r : Q4) (f0 f1 f2 f3 f4 : Nat → Int32) (wc mn : Int32) : Prop :=
  rf_CF wl r ry wf mf L f n g ∧ rf_YF wl f0 f1 f2 f3 f4 ∧ wc = mn ∧ ((ry = none ∧ ha = 0) ∨ ((∃ q, ry = some q) ∧ ha = 1)) ∧ ok_r r ∧ (∀ k w, k < 64 → wl k = some w → ok_w w)
section LawPure
variable {wl : Nat → Option Q4} {ry : Option Nat} {wf mf : Nat → Option Nat} {L : List Nat} {f : Nat → va_E} {n : Nat} {g : Nat → Nat} {ha : Int32} {r : Q4} {f0 f1 f2 f3 f4 : Nat → Int32} {wc mn : Int32}
theorem rf_mt_iff (hr : ok_r r) (hb : ∀ k w, k < 64 → wl k = some w → ok_w w) {k : Nat} (hk : k < 64) : rf_mt wl r k ↔ rf_kmt wl r k := by
  constructor
  · rintro ⟨w, h1, h2⟩; exact ⟨w, h1, (p_met (hb k w hk h1).q hr).mp h2⟩
  · rintro ⟨w, h1, h2⟩; exact ⟨w, h1, (p_met (hb k w hk h1).q hr).mpr h2⟩
theorem rf_nr_iff (hr : ok_r r) (hb : ∀ k w, k < 64 → wl k = some w → ok_w w) {k v : Nat} (hk : k < 64) (hv : v < 64) (mk : rf_mt wl r k) (mv : rf_mt wl r v) : rf_nr wl r k v ↔ rf_knr wl r k v := by
  obtain ⟨wk, k1, k2⟩ := mk
  obtain ⟨wv, v1, v2⟩ := mv
  have a := p_vals (hb k wk hk k1).q hr k2
  have b := p_vals (hb v wv hv v1).q hr v2
  constructor
  · rintro ⟨x, y, e1, e2, h⟩
    rw [k1] at e1; rw [v1] at e2; cases e1; cases e2
    rw [a.1, a.2.1, b.1, b.2.1] at h
    exact ⟨wk, wv, k1, v1, h⟩
  · rintro ⟨x, y, e1, e2, h⟩
    rw [k1] at e1; rw [v1] at e2; cases e1; cases e2
    rw [← a.1, ← a.2.1, ← b.1, ← b.2.1] at h
    exact ⟨wk, wv, k1, v1, h⟩
theorem rf_LW.order (h : rf_LW wl ry wf mf L f n g ha r f0 f1 f2 f3 f4 wc mn) {n' : Nat} {g' : Nat → Nat} {f5 : Nat → Int32} (hp : rf_PG wl ha r n' g' f5) : n = n' ∧ ∀ j, j < n → g j = g' j := by
  obtain ⟨⟨_, _, _, c4, c5, _, c7⟩, _, _, hry, hr, hb⟩ := h
  rcases hry with ⟨e1, e2⟩ | ⟨⟨q, e1⟩, e2⟩
  · have a := c5 e1
    have b := hp.2.1 e2
    exact ⟨by omega, fun j hj => by omega⟩
  · have a := c7 q e1
    have b := hp.2.2.1 (by rw [e2]; decide)
    exact g_ok_uniq 64 (fun k hk => rf_mt_iff hr hb hk) (fun w v hv hw mw mv => rf_nr_iff hr hb hw (by omega) mw mv) (Nat.le_refl 64) a b
theorem rf_LW.meets (h : rf_LW wl ry wf mf L f n g ha r f0 f1 f2 f3 f4 wc mn) {k : Nat} (hk : k < n) {w : Q4} (hw : wl (g k) = some w) : m_met w r ∧ ok_w w := by
  obtain ⟨⟨_, _, _, c4, c5, _, c7⟩, _, _, hry, hr, hb⟩ := h
  have hq : ∃ q, ry = some q := by
    rcases hry with ⟨e1, _⟩ | ⟨e1, _⟩
    · have := c5 e1; omega
    · exact e1
  obtain ⟨q, e1⟩ := hq
  have := g_ok_in (c7 q e1) k hk
  obtain ⟨w', h1, h2⟩ := this.2
  rw [hw] at h1
  cases h1
  exact ⟨h2, hb (g k) w this.1 hw⟩
theorem x_met (h : rf_LW wl ry wf mf L f n g ha r f0 f1 f2 f3 f4 wc mn) {r1 r2 : Int32} {n' : Nat} {g' : Nat → Nat} {f5 : Nat → Int32} (h1 : (ry = none ∧ r1 = -1) ∨ (∃ q, ry = some q ∧ r1 = nI n)) (h2 : ((ha = 0 ∧ r2 = -1) ∨ (¬ ha = 0 ∧ r2 = nI n')) ∧ rf_PG wl ha r n' g' f5) : r1 = r2 := by
  have ho := (h.order h2.2).1
  have hry := h.2.2.2.1
  rcases h1 with ⟨a1, a2⟩ | ⟨q, a1, a2⟩ <;> rcases h2.1 with ⟨b1, b2⟩ | ⟨b1, b2⟩
  · rw [a2, b2]
  · rcases hry with ⟨_, e⟩ | ⟨⟨q, e⟩, _⟩
    · exact absurd e b1
    · rw [a1] at e; cases e
  · rcases hry with ⟨e, _⟩ | ⟨_, e⟩
    · rw [a1] at e; cases e
    · rw [b1] at e; exact absurd e (by decide)
  · rw [a2, b2, ho]
theorem x_no {i : Int32} {k n : Nat} (hn : n ≤ 64) (hk : k < n) (ek : i = nI k) (h : i < 0) : False := by
  subst ek
  exact nI_pos (by omega) h
theorem x_wall (h : rf_LW wl ry wf mf L f n g ha r f0 f1 f2 f3 f4 wc mn) {i r1 r2 : Int32} {n' : Nat} {g' : Nat → Nat} {f5 : Nat → Int32} (h1 : (∃ k, k < n ∧ i = nI k ∧ r1 = nI (g k)) ∨ ((∀ k, k < n → ¬ i = nI k) ∧ r1 = -1)) (h2 : (∃ k, k < n' ∧ i = nI k ∧ r2 = nI (g' k) ∧ rf_PG wl ha r n' g' f5) ∨ ((i < 0 ∨ (rf_PG wl ha r n' g' f5 ∧ ∀ k, k < n' → ¬ i = nI k)) ∧ r2 = -1)) : r1 = r2 := by
  have hn : n ≤ 64 := h.1.2.2.2.1
  rcases h1 with ⟨k, a1, a2, a3⟩ | ⟨a1, a2⟩ <;> rcases h2 with ⟨j, b1, b2, b3, b4⟩ | ⟨b1, b2⟩
  · have ho := h.order b4
    have e : k = j := nI_inj (by omega) (by omega) (a2.symm.trans b2)
    subst e
    rw [a3, b3, ho.2 k a1]
  · rcases b1 with b1 | ⟨b3, b4⟩
    · exact (x_no hn a1 a2 b1).elim
    · exact absurd a2 (b4 k (by have := (h.order b3).1; omega))
  · exact absurd b2 (a1 j (by have := (h.order b4).1; omega))
  · rw [a2, b2]
theorem x_right (h : rf_LW wl ry wf mf L f n g ha r f0 f1 f2 f3 f4 wc mn) {i r1 r2 : Int32} {n' : Nat} {g' : Nat → Nat} {f5 : Nat → Int32} (h1 : rf_tf r1 (∃ k, k < n ∧ i = nI k ∧ ∃ w, wl (g k) = some w ∧ m_p w r < 0)) (h2 : (i < 0 ∧ r2 = 0) ∨ (rf_PG wl ha r n' g' f5 ∧ rf_tf r2 (∃ k, k < n' ∧ i = nI k ∧ ∃ w, wl (g' k) = some w ∧ k_p0 w r < 0))) : r1 = r2 := by
  have hn : n ≤ 64 := h.1.2.2.2.1
  rcases h2 with ⟨b1, b2⟩ | ⟨b1, b2⟩
  · have h3 : rf_tf r2 False := Or.inr ⟨b2, id⟩
    exact h1.same h3 ⟨fun ⟨k, hk, ek, _⟩ => x_no hn hk ek b1, False.elim⟩
  · have ho := h.order b1
    obtain ⟨ho1, ho2⟩ := ho
    subst ho1
    refine h1.same b2 ⟨?_, ?_⟩
    · rintro ⟨k, hk, ek, w, hw, hp⟩
      have hm := h.meets hk hw
      exact ⟨k, hk, ek, w, by rw [← ho2 k hk]; exact hw, by rw [p0_z hm.2.q h.2.2.2.2.1]; exact hp⟩
    · rintro ⟨k, hk, ek, w, hw, hp⟩
      rw [← ho2 k hk] at hw
      have hm := h.meets hk hw
      exact ⟨k, hk, ek, w, hw, by rw [← p0_z hm.2.q h.2.2.2.2.1]; exact hp⟩
theorem x_xor {x y : Int64} (hx : 0 ≤ x) (hy : 0 ≤ y) : ¬ (x ^^^ y) < 0 := by
  rw [z_lt0]
  have hx' : ¬ x.toInt < 0 := by rw [Int64.le_iff_toInt_le, Int64.toInt_zero] at hx; omega
  have hy' : ¬ y.toInt < 0 := by rw [Int64.le_iff_toInt_le, Int64.toInt_zero] at hy; omega
  rw [← Int64.toInt_toBitVec] at hx' hy' ⊢
  rw [Int64.toBitVec_xor]
  have a : x.toBitVec.msb = false := by rw [BitVec.msb_eq_toInt]; exact decide_eq_false hx'
  have b : y.toBitVec.msb = false := by rw [BitVec.msb_eq_toInt]; exact decide_eq_false hy'
  have c : (x.toBitVec ^^^ y.toBitVec).msb = false := by rw [BitVec.msb_xor, a, b]; rfl
  rw [BitVec.msb_eq_toInt] at c
  exact of_decide_eq_false c
theorem x_rd {x d : Int64} (hx : 0 ≤ x) (hd : 0 < d) : m_rd x d = x / d := by
  unfold m_rd m_fdiv
  rw [if_pos hd, if_neg (fun h => x_xor hx (by rw [Int64.le_iff_toInt_le]; rw [Int64.lt_iff_toInt_lt] at hd; omega) h.1)]
theorem up_z {w : Q4} (hw : ok_q w) (hr : ok_r r) (h : m_met w r) : 0 < (k_up w r).toInt ∧ (k_up w r).toInt ≤ 48000000 := by
  have e := p0_z hw hr
  have s := (side_z hw hr.1 hr.2.1).2
  have sp : -48000000 ≤ (m_p w r).toInt ∧ (m_p w r).toInt ≤ 48000000 := s
  have k := (p_met hw hr).mp h
  have k2 := z_gt0.mp k.2
  refine ⟨k2, ?_⟩
  unfold k_up
  rw [e]
  by_cases q : m_q w r < 0
  · rw [if_pos q, z_neg64 sp (by omega)]; omega
  · rw [if_neg q]; omega
theorem x_times (h : rf_LW wl ry wf mf L f n g ha r f0 f1 f2 f3 f4 wc mn) {i nn : Int32} {r1 r2 : Int64} {n' : Nat} {g' : Nat → Nat} {f5 : Nat → Int32}
    (h1 : (∃ k w, k < n ∧ i = nI k ∧ wl (g k) = some w ∧ m_btw nn 0 1000000 ∧ r1 = m_rd (nn.toInt64 * m_abs (m_p w r)) (m_abs (m_q w r))) ∨ (((∀ k, k < n → ¬ i = nI k) ∨ ¬ m_btw nn 0 1000000) ∧ r1 = -1))
    (h2 : (∃ k w, k < n' ∧ i = nI k ∧ wl (g' k) = some w ∧ m_btw nn 0 1000000 ∧ r2 = nn.toInt64 * k_up w r / k_dn w r ∧ rf_PG wl ha r n' g' f5) ∨ (((i < 0 ∨ (rf_PG wl ha r n' g' f5 ∧ ∀ k, k < n' → ¬ i = nI k)) ∨ ¬ m_btw nn 0 1000000) ∧ r2 = -1)) : r1 = r2 := by
  have hn : n ≤ 64 := h.1.2.2.2.1
  rcases h1 with ⟨k, w, a1, a2, a3, a4, a5⟩ | ⟨a1, a2⟩ <;> rcases h2 with ⟨j, v, b1, b2, b3, b4, b5, b6⟩ | ⟨b1, b2⟩
  · have ho := h.order b6
    have e : k = j := nI_inj (by omega) (by omega) (a2.symm.trans b2)
    subst e
    rw [← ho.2 k a1, a3] at b3
    cases b3
    have hm := h.meets a1 a3
    have hv := p_vals hm.2.q h.2.2.2.2.1 hm.1
    have hu := up_z hm.2.q h.2.2.2.2.1 hm.1
    rw [a5, b5, hv.1, hv.2.1]
    refine x_rd ?_ hv.2.2.1
    have n1 := a4.1
    have n2 := a4.2
    rw [Int32.le_iff_toInt_le] at n1 n2
    have z1 : (0 : Int32).toInt = 0 := by decide
    have z2 : (1000000 : Int32).toInt = 1000000 := by decide
    have hnn : -1000000 ≤ nn.toInt64.toInt ∧ nn.toInt64.toInt ≤ 1000000 := by rw [Int32.toInt_toInt64]; omega
    rw [Int64.le_iff_toInt_le, Int64.toInt_zero, z_mul (M := 1000000) (N := 48000000) hnn ⟨by omega, hu.2⟩ (by omega), Int32.toInt_toInt64]
    exact Int.mul_nonneg (by omega) (by omega)
  · exfalso
    rcases b1 with (b1 | ⟨b3, b4⟩) | b1
    · exact x_no hn a1 a2 b1
    · exact b4 k (by have := (h.order b3).1; omega) a2
    · exact b1 a4
  · exfalso
    rcases a1 with a1 | a1
    · exact a1 j (by have := (h.order b6).1; omega) b2
    · exact a1 b4
  · rw [a2, b2]
theorem x_div2 {x y : Int64} {M : Int} (hx : -M ≤ x.toInt ∧ x.toInt ≤ M) (hy : -M ≤ y.toInt ∧ y.toInt ≤ M) (hM : M ≤ 4000000000000000000) : (-x) / (-y) = x / y := by
  have n1 : ∀ z : Int64, -M ≤ z.toInt → z ≠ Int64.minValue := by
    intro z hz e
    rw [e] at hz
    have : Int64.minValue.toInt = -9223372036854775808 := by decide
    omega
  have e1 := z_neg64 hx hM
  have e2 := z_neg64 hy hM
  apply Int64.toInt_inj.mp
  rw [Int64.toInt_div_of_ne_left _ _ (n1 (-x) (by rw [e1]; omega)), Int64.toInt_div_of_ne_left _ _ (n1 x hx.1), e1, e2, Int.neg_tdiv, Int.tdiv_neg, Int.neg_neg]
theorem x_down {w : Q4} (hw : ok_q w) (hr : ok_r r) (h : m_met w r) : m_rd (1024 * m_abs (m_a w r)) (m_abs (m_q w r)) = k_down (1024 * m_a w r) (m_a w r - m_b w r) := by
  obtain ⟨qe, q1, q2, qa, qb⟩ := q_z hw hr
  have hv := p_vals hw hr h
  have hne := h.1
  rw [z_lt0, z_lt0] at hne
  have h1024 : (1024 : Int64).toInt = 1024 := by decide
  have hk : -1024 ≤ (1024 : Int64).toInt ∧ (1024 : Int64).toInt ≤ 1024 := by rw [h1024]; omega
  have eab : (m_a w r - m_b w r).toInt = (m_a w r).toInt - (m_b w r).toInt := z_sub64 (M := 240000000) (N := 240000000) qa qb (by omega)
  have e1 : (1024 * m_a w r).toInt = 1024 * (m_a w r).toInt := by rw [z_mul hk qa (by omega), h1024]
  have hd : 0 < m_abs (m_q w r) := by rw [hv.2.1]; exact hv.2.2.1
  by_cases c : (m_a w r).toInt < 0
  · have hb : ¬ (m_b w r).toInt < 0 := fun z => hne ⟨fun _ => z, fun _ => c⟩
    have ea : m_abs (m_a w r) = -(m_a w r) := by unfold m_abs; rw [if_neg (by rw [z_gt0]; omega)]
    have eq : m_abs (m_q w r) = m_q w r := by unfold m_abs; rw [if_pos (by rw [z_gt0]; omega)]
    have ex : 1024 * m_abs (m_a w r) = -(1024 * m_a w r) := by
      apply Int64.toInt_inj.mp
      rw [ea, z_neg64 (M := 300000000000) (by rw [e1]; omega) (by omega), e1, z_mul (M := 1024) (N := 240000000) hk (by rw [z_neg64 qa (by omega)]; omega) (by omega), z_neg64 qa (by omega), h1024]
      omega
    have ey : m_q w r = -(m_a w r - m_b w r) := by
      apply Int64.toInt_inj.mp
      rw [z_neg64 (M := 480000000) (by rw [eab]; omega) (by omega), eab, qe]; omega
    rw [x_rd (by rw [ex, Int64.le_iff_toInt_le, Int64.toInt_zero, z_neg64 (M := 300000000000) (by rw [e1]; omega) (by omega), e1]; omega) hd, ex, eq, ey, x_div2 (M := 300000000000) (by rw [e1]; omega) (by rw [eab]; omega) (by omega)]
    unfold k_down
    rw [if_neg]
    intro hc
    apply hc.2
    rw [z_lt0, z_lt0, e1, eab]
    omega
  · have hb : (m_b w r).toInt < 0 := by
      apply Classical.byContradiction
      intro z
      exact hne ⟨fun y => absurd y c, fun y => absurd y z⟩
    have eq : m_abs (m_q w r) = m_a w r - m_b w r := by
      unfold m_abs
      rw [if_neg (by rw [z_gt0]; omega)]
      apply Int64.toInt_inj.mp
      rw [z_neg64 (M := 480000000) ⟨q1, q2⟩ (by omega), eab, qe]; omega
    have ea : m_abs (m_a w r) = m_a w r := by
      unfold m_abs
      by_cases z : 0 < m_a w r
      · rw [if_pos z]
      · rw [if_neg z]
        rw [z_gt0] at z
        apply Int64.toInt_inj.mp
        rw [z_neg64 qa (by omega)]; omega
    rw [x_rd (by rw [ea, Int64.le_iff_toInt_le, Int64.toInt_zero, e1]; omega) hd, eq, ea]
    unfold k_down
    rw [if_neg]
    intro hc
    apply hc.2
    rw [z_lt0, z_lt0, e1, eab]
    omega
theorem x_along (h : rf_LW wl ry wf mf L f n g ha r f0 f1 f2 f3 f4 wc mn) {i r1 r2 : Int32} {n' : Nat} {g' : Nat → Nat} {f5 : Nat → Int32}
    (h1 : (∃ k w, k < n ∧ i = nI k ∧ wl (g k) = some w ∧ r1 = (m_rd (1024 * m_abs (m_a w r)) (m_abs (m_q w r))).toInt32) ∨ ((∀ k, k < n → ¬ i = nI k) ∧ r1 = -1))
    (h2 : (∃ k w, k < n' ∧ i = nI k ∧ wl (g' k) = some w ∧ r2 = (k_down (1024 * m_a w r) (m_a w r - m_b w r)).toInt32 ∧ rf_PG wl ha r n' g' f5) ∨ ((i < 0 ∨ (rf_PG wl ha r n' g' f5 ∧ ∀ k, k < n' → ¬ i = nI k)) ∧ r2 = -1)) : r1 = r2 := by
  have hn : n ≤ 64 := h.1.2.2.2.1
  rcases h1 with ⟨k, w, a1, a2, a3, a5⟩ | ⟨a1, a2⟩ <;> rcases h2 with ⟨j, v, b1, b2, b3, b5, b6⟩ | ⟨b1, b2⟩
  · have ho := h.order b6
    have e : k = j := nI_inj (by omega) (by omega) (a2.symm.trans b2)
    subst e
    rw [← ho.2 k a1, a3] at b3
    cases b3
    have hm := h.meets a1 a3
    rw [a5, b5, x_down hm.2.q h.2.2.2.2.1 hm.1]
  · exfalso
    rcases b1 with b1 | ⟨b3, b4⟩
    · exact x_no hn a1 a2 b1
    · exact b4 k (by have := (h.order b3).1; omega) a2
  · exact absurd b2 (a1 j (by have := (h.order b6).1; omega))
  · rw [a2, b2]
theorem x_within (h : rf_LW wl ry wf mf L f n g ha r f0 f1 f2 f3 f4 wc mn) {nn dd r1 r2 : Int32}
    (h1 : ((∃ q, ry = some q) ∧ m_btw nn 0 1000000 ∧ m_btw dd 1 1000000 ∧ ∃ c, r1 = nI c ∧ g_cnt (fun k => ∃ w, wl k = some w ∧ m_abs (m_p w r) * dd.toInt64 ≤ nn.toInt64 * m_abs (m_q w r)) g n c) ∨ ((ry = none ∨ ¬ m_btw nn 0 1000000 ∨ ¬ m_btw dd 1 1000000) ∧ r1 = -1))
    (h2 : (¬ ha = 0 ∧ m_btw nn 0 1000000 ∧ m_btw dd 1 1000000 ∧ ∃ c, r2 = nI c ∧ g_cnt (fun k => rf_kmt wl r k ∧ ∃ w, wl k = some w ∧ k_up w r * dd.toInt64 ≤ nn.toInt64 * k_dn w r) (fun j => j) 64 c) ∨ ((ha = 0 ∨ ¬ m_btw nn 0 1000000 ∨ ¬ m_btw dd 1 1000000) ∧ r2 = -1)) : r1 = r2 := by
  have hry := h.2.2.2.1
  have hr := h.2.2.2.2.1
  have hb := h.2.2.2.2.2
  rcases h1 with ⟨⟨q, a0⟩, a1, a2, c, a3, a4⟩ | ⟨a1, a2⟩ <;> rcases h2 with ⟨b0, b1, b2, d, b3, b4⟩ | ⟨b1, b2⟩
  · have ho := h.1.2.2.2.2.2.2 q a0
    have key : ∀ k, k < 64 → ((rf_kmt wl r k ∧ ∃ w, wl k = some w ∧ k_up w r * dd.toInt64 ≤ nn.toInt64 * k_dn w r) ↔ (rf_mt wl r k ∧ ∃ w, wl k = some w ∧ m_abs (m_p w r) * dd.toInt64 ≤ nn.toInt64 * m_abs (m_q w r))) := by
      intro k hk
      rw [← rf_mt_iff hr hb hk]
      constructor
      · rintro ⟨⟨w, w1, w2⟩, v, v1, v2⟩
        rw [w1] at v1; cases v1
        have hv := p_vals (hb k w hk w1).q hr w2
        rw [← hv.1, ← hv.2.1] at v2
        exact ⟨⟨w, w1, w2⟩, w, w1, v2⟩
      · rintro ⟨⟨w, w1, w2⟩, v, v1, v2⟩
        rw [w1] at v1; cases v1
        have hv := p_vals (hb k w hk w1).q hr w2
        rw [hv.1, hv.2.1] at v2
        exact ⟨⟨w, w1, w2⟩, w, w1, v2⟩
    obtain ⟨c', hc'⟩ := g_cnt_ex (fun k => rf_mt wl r k ∧ ∃ w, wl k = some w ∧ m_abs (m_p w r) * dd.toInt64 ≤ nn.toInt64 * m_abs (m_q w r)) (fun j => j) 64
    have e1 := g_cnt_uniq key b4 hc'
    have e2 := g_cnt_walls ho hc'
    have e3 := g_cnt_uniq (fun j _ => Iff.rfl) a4 e2
    rw [a3, b3, e3, e1]
  · exfalso
    rcases b1 with b1 | b1 | b1
    · rcases hry with ⟨e, _⟩ | ⟨_, e⟩
      · rw [a0] at e; cases e
      · rw [b1] at e; exact absurd e (by decide)
    · exact b1 a1
    · exact b1 a2
  · exfalso
    rcases a1 with a1 | a1 | a1
    · rcases hry with ⟨_, e⟩ | ⟨⟨q, e⟩, _⟩
      · exact b0 e
      · rw [a1] at e; cases e
    · exact a1 b1
    · exact a1 b2
  · rw [a2, b2]
theorem x_on {px py r1 r2 : Int32} (h1 : (m_place px py 4000 ∧ rf_First (fun k => ∃ w, wl k = some w ∧ m_cov w px py) r1) ∨ (¬ m_place px py 4000 ∧ r1 = -1)) (h2 : (m_place px py 4000 ∧ rf_First (fun k => ∃ w, wl k = some w ∧ k_on w px py) r2) ∨ (¬ m_place px py 4000 ∧ r2 = -1)) : r1 = r2 := by
  rcases h1 with ⟨a1, a2⟩ | ⟨a1, a2⟩ <;> rcases h2 with ⟨b1, b2⟩ | ⟨b1, b2⟩
  · exact a2.uniq b2 (fun k _ => ⟨fun ⟨w, h, h'⟩ => ⟨w, h, (m_cov_on w px py).mp h'⟩, fun ⟨w, h, h'⟩ => ⟨w, h, (m_cov_on w px py).mpr h'⟩⟩)
  · exact absurd a1 b1
  · exact absurd b1 a1
  · rw [a2, b2]
theorem x_of {i what r1 r2 : Int32} (h1 : (∃ k, k < 64 ∧ i = nI k ∧ r1 = m_of (wl k) what) ∨ ((∀ k, k < 64 → ¬ i = nI k) ∧ r1 = 100000)) (h2 : (∃ k w, k < 64 ∧ i = nI k ∧ wl k = some w ∧ r2 = m_of (some w) what) ∨ ((∀ k w, k < 64 → i = nI k → ¬ wl k = some w) ∧ r2 = 100000)) : r1 = r2 := by
  rcases h1 with ⟨k, a1, a2, a3⟩ | ⟨a1, a2⟩ <;> rcases h2 with ⟨j, w, b1, b2, b3, b4⟩ | ⟨b1, b2⟩
  · have e : k = j := nI_inj (by omega) (by omega) (a2.symm.trans b2)
    subst e
    rw [a3, b4, b3]
  · rw [a3, b2]
    cases hw : wl k with
    | none => rfl
    | some w => exact absurd hw (b1 k w a1 a2)
  · exact absurd b2 (a1 j b1)
  · rw [a2, b2]
theorem x_look (h : rf_LW wl ry wf mf L f n g ha r f0 f1 f2 f3 f4 wc mn) {wh r1 r2 : Int32} (h1 : (wh = 0 ∧ r1 = wc) ∨ (wh = 1 ∧ rf_First (fun k => wf k = none) r1) ∨ (wh = 2 ∧ rf_tf r1 (¬ ry = none)) ∨ (¬ wh = 0 ∧ ¬ wh = 1 ∧ ¬ wh = 2 ∧ r1 = -1)) (h2 : (wh = 0 ∧ r2 = mn) ∨ (wh = 1 ∧ rf_First (fun k => wl k = none) r2) ∨ (wh = 2 ∧ rf_tf r2 (¬ ha = 0)) ∨ (¬ wh = 0 ∧ ¬ wh = 1 ∧ ¬ wh = 2 ∧ r2 = -1)) : r1 = r2 := by
  have e01 : ¬ (0 : Int32) = 1 := by decide
  have e02 : ¬ (0 : Int32) = 2 := by decide
  have e12 : ¬ (1 : Int32) = 2 := by decide
  rcases h1 with ⟨a, a1⟩ | ⟨a, a1⟩ | ⟨a, a1⟩ | ⟨a, a2, a3, a1⟩ <;> rcases h2 with ⟨b, b1⟩ | ⟨b, b1⟩ | ⟨b, b1⟩ | ⟨b, b2, b3, b1⟩
  · rw [a1, b1, h.2.2.1]
  · exact absurd (a.symm.trans b) e01
  · exact absurd (a.symm.trans b) e02
  · exact absurd a b
  · exact absurd (b.symm.trans a) e01
  · exact a1.uniq b1 (fun k hk => h.1.1.iff hk)
  · exact absurd (a.symm.trans b) e12
  · exact absurd a b2
  · exact absurd (b.symm.trans a) e02
  · exact absurd (b.symm.trans a) e12
  · refine a1.same b1 ?_
    rcases h.2.2.2.1 with ⟨e, e2⟩ | ⟨⟨q, e⟩, e2⟩
    · exact ⟨fun z => absurd e z, fun z => absurd e2 z⟩
    · exact ⟨fun _ z => by rw [e2] at z; exact absurd z (by decide), fun _ z => by rw [e] at z; cases z⟩
  · exact absurd a b3
  · exact absurd b a
  · exact absurd b a2
  · exact absurd b a3
  · rw [a1, b1]
end LawPure
