/-! From machine numbers to whole numbers, and back: class and reference say the same. -/
theorem z_sub {x y : Int32} {m n : Int} (hx : ok_c x m) (hy : ok_c y n) (hm : m ≤ 1000000) (hn : n ≤ 1000000) : (x - y).toInt64.toInt = x.toInt - y.toInt := by
  obtain ⟨a, b⟩ := hx
  obtain ⟨c, d⟩ := hy
  rw [Int32.toInt_toInt64, Int32.toInt_sub]
  exact Int.bmod_eq_of_le_mul_two (by show -(4294967296 : Int) ≤ _; omega) (by show _ < (4294967296 : Int); omega)
theorem z_mul {x y : Int64} {M N : Int} (hx : -M ≤ x.toInt ∧ x.toInt ≤ M) (hy : -N ≤ y.toInt ∧ y.toInt ≤ N) (h : M * N ≤ 4000000000000000000) : (x * y).toInt = x.toInt * y.toInt := by
  have hb := z_b hx hy
  rw [Int64.toInt_mul]
  exact Int.bmod_eq_of_le_mul_two (by show -(18446744073709551616 : Int) ≤ _; omega) (by show _ < (18446744073709551616 : Int); omega)
theorem z_sub64 {x y : Int64} {M N : Int} (hx : -M ≤ x.toInt ∧ x.toInt ≤ M) (hy : -N ≤ y.toInt ∧ y.toInt ≤ N) (h : M + N ≤ 4000000000000000000) : (x - y).toInt = x.toInt - y.toInt := by
  rw [Int64.toInt_sub]
  exact Int.bmod_eq_of_le_mul_two (by show -(18446744073709551616 : Int) ≤ _; omega) (by show _ < (18446744073709551616 : Int); omega)
theorem z_neg64 {x : Int64} {M : Int} (hx : -M ≤ x.toInt ∧ x.toInt ≤ M) (h : M ≤ 4000000000000000000) : (-x).toInt = -x.toInt := by
  rw [Int64.toInt_neg]
  exact Int.bmod_eq_of_le_mul_two (by show -(18446744073709551616 : Int) ≤ _; omega) (by show _ < (18446744073709551616 : Int); omega)
theorem z_cross {p q r s : Int64} {M N : Int} (hp : -M ≤ p.toInt ∧ p.toInt ≤ M) (hq : -M ≤ q.toInt ∧ q.toInt ≤ M) (hr : -N ≤ r.toInt ∧ r.toInt ≤ N) (hs : -N ≤ s.toInt ∧ s.toInt ≤ N) (h : M * N ≤ 1000000000000000000) : (m_cross p q r s).toInt = p.toInt * s.toInt - q.toInt * r.toInt ∧ -(2 * (M * N)) ≤ (m_cross p q r s).toInt ∧ (m_cross p q r s).toInt ≤ 2 * (M * N) := by
  have e1 := z_mul hp hs (by omega)
  have e2 := z_mul hq hr (by omega)
  have b1 := z_b hp hs
  have b2 := z_b hq hr
  have e : (m_cross p q r s).toInt = p.toInt * s.toInt - q.toInt * r.toInt := by
    unfold m_cross
    rw [z_sub64 (M := M * N) (N := M * N) (by rw [e1]; exact b1) (by rw [e2]; exact b2) (by omega), e1, e2]
  rw [e]
  exact ⟨rfl, by omega, by omega⟩
theorem c_sub {x y : Int32} {m n : Int} (hx : ok_c x m) (hy : ok_c y n) (hm : m ≤ 1000000) (hn : n ≤ 1000000) : -(m + n) ≤ (x - y).toInt64.toInt ∧ (x - y).toInt64.toInt ≤ m + n := by
  rw [z_sub hx hy hm hn]
  obtain ⟨a, b⟩ := hx
  obtain ⟨c, d⟩ := hy
  constructor <;> omega
def ok_q (w : Q4) : Prop := ok_c w.1 2000 ∧ ok_c w.2.1 2000 ∧ ok_c w.2.2.1 2000 ∧ ok_c w.2.2.2 2000
theorem ok_w.q {w : Q4} (h : ok_w w) : ok_q w := ⟨h.1, h.2.1, h.2.2.1, h.2.2.2.1⟩
theorem ok_c.up {x : Int32} {m n : Int} (h : ok_c x m) (hmn : m ≤ n) : ok_c x n := ⟨by have := h.1; omega, by have := h.2; omega⟩
theorem side_z {w : Q4} {x y : Int32} (hw : ok_q w) (hx : ok_c x 4000) (hy : ok_c y 4000) : (m_side w x y).toInt = z_side w.1.toInt w.2.1.toInt w.2.2.1.toInt w.2.2.2.toInt x.toInt y.toInt ∧ -48000000 ≤ (m_side w x y).toInt ∧ (m_side w x y).toInt ≤ 48000000 := by
  obtain ⟨h1, h2, h3, h4⟩ := hw
  have k := z_cross (M := 4000) (N := 6000) (c_sub h3 h1 (by omega) (by omega)) (c_sub h4 h2 (by omega) (by omega)) (c_sub hx h1 (by omega) (by omega)) (c_sub hy h2 (by omega) (by omega)) (by omega)
  rw [z_sub h3 h1 (by omega) (by omega), z_sub h4 h2 (by omega) (by omega), z_sub hx h1 (by omega) (by omega), z_sub hy h2 (by omega) (by omega)] at k
  exact ⟨k.1, by have := k.2.1; unfold m_side; omega, by have := k.2.2; unfold m_side; omega⟩
theorem z_eq0 {x : Int64} : x = 0 ↔ x.toInt = 0 := by
  rw [← Int64.toInt_inj, Int64.toInt_zero]
theorem z_lt0 {x : Int64} : x < 0 ↔ x.toInt < 0 := by rw [Int64.lt_iff_toInt_lt, Int64.toInt_zero]
theorem z_gt0 {x : Int64} : 0 < x ↔ 0 < x.toInt := by rw [Int64.lt_iff_toInt_lt, Int64.toInt_zero]
theorem z_le0 {x : Int64} : x ≤ 0 ↔ x.toInt ≤ 0 := by rw [Int64.le_iff_toInt_le, Int64.toInt_zero]
theorem z_gt0' {x : Int32} : 0 < x ↔ 0 < x.toInt := by rw [Int32.lt_iff_toInt_lt, Int32.toInt_zero]
theorem m_min_z (x y : Int32) : (m_min x y).toInt = min x.toInt y.toInt := by
  unfold m_min
  by_cases h : y < x
  · rw [if_pos h]; rw [Int32.lt_iff_toInt_lt] at h; omega
  · rw [if_neg h]; rw [Int32.lt_iff_toInt_lt] at h; omega
theorem m_max_z (x y : Int32) : (m_max x y).toInt = max x.toInt y.toInt := by
  unfold m_max
  by_cases h : x < y
  · rw [if_pos h]; rw [Int32.lt_iff_toInt_lt] at h; omega
  · rw [if_neg h]; rw [Int32.lt_iff_toInt_lt] at h; omega
theorem k_lo_min (x y : Int32) : k_lo x y = m_min x y := by
  apply Int32.toInt_inj.mp
  rw [m_min_z]
  unfold k_lo
  by_cases h : x < y
  · rw [if_pos h]; rw [Int32.lt_iff_toInt_lt] at h; omega
  · rw [if_neg h]; rw [Int32.lt_iff_toInt_lt] at h; omega
theorem k_hi_max (x y : Int32) : k_hi x y = m_max x y := rfl
theorem m_cov_on (w : Q4) (x y : Int32) : m_cov w x y ↔ k_on w x y := by
  unfold m_cov k_on m_btw
  rw [k_lo_min, k_lo_min, k_hi_max, k_hi_max]
  constructor
  · rintro ⟨h1, ⟨h2, h3⟩, h4, h5⟩; exact ⟨h1, h2, h3, h4, h5⟩
  · rintro ⟨h1, h2, h3, h4, h5⟩; exact ⟨h1, ⟨h2, h3⟩, h4, h5⟩
theorem m_len_z {a b c d : Int32} (ha : ok_c a 2000) (hb : ok_c b 2000) (hc : ok_c c 2000) (hd : ok_c d 2000) : 0 < m_len a b c d ↔ 0 < z_len a.toInt b.toInt c.toInt d.toInt := by
  have k1 : (m_min (m_max a b) (m_max c d)).toInt = min (max a.toInt b.toInt) (max c.toInt d.toInt) := by rw [m_min_z, m_max_z, m_max_z]
  have k2 : (m_max (m_min a b) (m_min c d)).toInt = max (min a.toInt b.toInt) (min c.toInt d.toInt) := by rw [m_max_z, m_min_z, m_min_z]
  have o1 : ok_c (m_min (m_max a b) (m_max c d)) 2000 := by
    unfold ok_c at *; rw [k1]; omega
  have o2 : ok_c (m_max (m_min a b) (m_min c d)) 2000 := by
    unfold ok_c at *; rw [k2]; omega
  have k3 := z_sub o1 o2 (by omega) (by omega)
  rw [Int32.toInt_toInt64] at k3
  rw [z_gt0']
  unfold m_len z_len
  rw [k3, k1, k2]
theorem k_on_z {w : Q4} {x y : Int32} (hw : ok_q w) (hx : ok_c x 4000) (hy : ok_c y 4000) : k_on w x y ↔ z_on w.1.toInt w.2.1.toInt w.2.2.1.toInt w.2.2.2.toInt x.toInt y.toInt := by
  unfold k_on z_on z_bx
  rw [z_eq0, (side_z hw hx hy).1, k_lo_min, k_lo_min, k_hi_max, k_hi_max, Int32.le_iff_toInt_le, Int32.le_iff_toInt_le, Int32.le_iff_toInt_le, Int32.le_iff_toInt_le, m_min_z, m_min_z, m_max_z, m_max_z]
  constructor
  · rintro ⟨h1, h2, h3, h4, h5⟩; exact ⟨h1, by omega, by omega⟩
  · rintro ⟨h1, h2, h3⟩; exact ⟨h1, by omega, by omega, by omega, by omega⟩
theorem k_end_z {w : Q4} {x y : Int32} : k_end w x y ↔ z_end w.1.toInt w.2.1.toInt w.2.2.1.toInt w.2.2.2.toInt x.toInt y.toInt := by
  unfold k_end z_end
  rw [Int32.toInt_inj, Int32.toInt_inj, Int32.toInt_inj, Int32.toInt_inj]
theorem m_end_k {w : Q4} {x y : Int32} : m_end w x y ↔ k_end w x y := by
  unfold m_end k_end
  constructor
  · rintro (⟨h1, h2⟩ | ⟨h1, h2⟩)
    · exact Or.inl ⟨h1.symm, h2.symm⟩
    · exact Or.inr ⟨h1.symm, h2.symm⟩
  · rintro (⟨h1, h2⟩ | ⟨h1, h2⟩)
    · exact Or.inl ⟨h1.symm, h2.symm⟩
    · exact Or.inr ⟨h1.symm, h2.symm⟩
theorem k_opp_z {a b : Int64} : k_opp a b ↔ z_opp a.toInt b.toInt := by
  unfold k_opp z_opp
  rw [z_lt0, z_gt0, z_gt0, z_lt0]
theorem z_mul0 {a b : Int64} (ha : -48000000 ≤ a.toInt ∧ a.toInt ≤ 48000000) (hb : -48000000 ≤ b.toInt ∧ b.toInt ≤ 48000000) : a * b ≤ 0 ↔ a.toInt * b.toInt ≤ 0 := by
  rw [z_le0, z_mul ha hb (by omega)]
theorem ok_ne {w : Q4} (h : ok_w w) : ¬ (w.1.toInt = w.2.2.1.toInt ∧ w.2.1.toInt = w.2.2.2.toInt) := by
  rw [Int32.toInt_inj, Int32.toInt_inj]; exact h.2.2.2.2
/-- two walls clash for the class just where the reference finds them not apart -/
theorem p_clash {v w : Q4} (hv : ok_w v) (hw : ok_w w) : m_clash v w ↔ ¬ k_apart v w := by
  have q1 := hv.q
  have q2 := hw.q
  have up : ∀ {x : Int32}, ok_c x 2000 → ok_c x 4000 := fun h => h.up (by omega)
  have sA := side_z q1 (up q2.1) (up q2.2.1)
  have sB := side_z q1 (up q2.2.2.1) (up q2.2.2.2)
  have sC := side_z q2 (up q1.1) (up q1.2.1)
  have sD := side_z q2 (up q1.2.2.1) (up q1.2.2.2)
  have nap : ¬ k_apart v w ↔ (k_cuts v w ∨ k_same v w ∨ k_lies v w) := by
    unfold k_apart
    constructor
    · intro h
      by_cases a : k_cuts v w
      · exact Or.inl a
      · by_cases b : k_same v w
        · exact Or.inr (Or.inl b)
        · by_cases c : k_lies v w
          · exact Or.inr (Or.inr c)
          · exact absurd ⟨a, b, c⟩ h
    · rintro (h | h | h) ⟨a, b, c⟩
      · exact a h
      · exact b h
      · exact c h
  rw [nap]
  have R : (k_cuts v w ∨ k_same v w ∨ k_lies v w) ↔ ((z_opp (z_side v.1.toInt v.2.1.toInt v.2.2.1.toInt v.2.2.2.toInt w.1.toInt w.2.1.toInt) (z_side v.1.toInt v.2.1.toInt v.2.2.1.toInt v.2.2.2.toInt w.2.2.1.toInt w.2.2.2.toInt) ∧ z_opp (z_side w.1.toInt w.2.1.toInt w.2.2.1.toInt w.2.2.2.toInt v.1.toInt v.2.1.toInt) (z_side w.1.toInt w.2.1.toInt w.2.2.1.toInt w.2.2.2.toInt v.2.2.1.toInt v.2.2.2.toInt)) ∨ z_same v.1.toInt v.2.1.toInt v.2.2.1.toInt v.2.2.2.toInt w.1.toInt w.2.1.toInt w.2.2.1.toInt w.2.2.2.toInt ∨ z_lies v.1.toInt v.2.1.toInt v.2.2.1.toInt v.2.2.2.toInt w.1.toInt w.2.1.toInt w.2.2.1.toInt w.2.2.2.toInt) := by
    unfold k_cuts k_same k_lies z_same z_lies
    rw [k_opp_z, k_opp_z, sA.1, sB.1, sC.1, sD.1, k_end_z, k_end_z, k_end_z, k_end_z, k_on_z q1 (up q2.1) (up q2.2.1), k_on_z q1 (up q2.2.2.1) (up q2.2.2.2), k_on_z q2 (up q1.1) (up q1.2.1), k_on_z q2 (up q1.2.2.1) (up q1.2.2.2)]
  rw [R]
  unfold m_clash m_shares m_ovl
  rw [m_end_k, m_end_k, k_end_z, k_end_z, z_mul0 sA.2 sB.2, z_mul0 sC.2 sD.2, z_eq0, z_eq0, sA.1, sB.1, sC.1, sD.1, m_len_z q1.1 q1.2.2.1 q2.1 q2.2.2.1, m_len_z q1.2.1 q1.2.2.2 q2.2.1 q2.2.2.2]
  by_cases h : z_side v.1.toInt v.2.1.toInt v.2.2.1.toInt v.2.2.2.toInt w.1.toInt w.2.1.toInt = 0 ∧ z_side v.1.toInt v.2.1.toInt v.2.2.1.toInt v.2.2.2.toInt w.2.2.1.toInt w.2.2.2.toInt = 0
  · rw [← z_case1 (ok_ne hv) (ok_ne hw) h.1 h.2]
    constructor
    · rintro (⟨_, k⟩ | ⟨k, _⟩)
      · exact k
      · exact absurd h k
    · intro k; exact Or.inl ⟨h, k⟩
  · rw [← z_case2 (ok_ne hv) (ok_ne hw) h]
    unfold z_shares
    constructor
    · rintro (⟨k, _⟩ | ⟨_, k⟩)
      · exact absurd k h
      · exact k
    · intro k; exact Or.inr ⟨h, k⟩
theorem rside_z {r : Q4} {x y : Int32} (hr : ok_r r) (hx : ok_c x 2000) (hy : ok_c y 2000) : (m_rside r x y).toInt = r.2.2.1.toInt * (y.toInt - r.2.1.toInt) - r.2.2.2.toInt * (x.toInt - r.1.toInt) ∧ -240000000 ≤ (m_rside r x y).toInt ∧ (m_rside r x y).toInt ≤ 240000000 := by
  obtain ⟨h1, h2, h3, h4⟩ := hr
  have k := z_cross (M := 20000) (N := 6000) (p := r.2.2.1.toInt64) (q := r.2.2.2.toInt64) (by rw [Int32.toInt_toInt64]; exact h3) (by rw [Int32.toInt_toInt64]; exact h4) (c_sub hx h1 (by omega) (by omega)) (c_sub hy h2 (by omega) (by omega)) (by omega)
  rw [z_sub hx h1 (by omega) (by omega), z_sub hy h2 (by omega) (by omega), Int32.toInt_toInt64, Int32.toInt_toInt64] at k
  exact ⟨k.1, by have := k.2.1; unfold m_rside; omega, by have := k.2.2; unfold m_rside; omega⟩
theorem p0_z {w r : Q4} (hw : ok_q w) (hr : ok_r r) : k_p0 w r = m_p w r := by
  obtain ⟨h1, h2, h3, h4⟩ := hw
  have k := z_cross (M := 6000) (N := 4000) (c_sub h1 hr.1 (by omega) (by omega)) (c_sub h2 hr.2.1 (by omega) (by omega)) (c_sub h3 h1 (by omega) (by omega)) (c_sub h4 h2 (by omega) (by omega)) (by omega)
  rw [z_sub h3 h1 (by omega) (by omega), z_sub h4 h2 (by omega) (by omega), z_sub h1 hr.1 (by omega) (by omega), z_sub h2 hr.2.1 (by omega) (by omega)] at k
  have s := side_z (w := w) ⟨h1, h2, h3, h4⟩ hr.1 hr.2.1
  apply Int64.toInt_inj.mp
  unfold k_p0 m_p
  rw [k.1, s.1]
  unfold z_side
  grind
/-- a wall and a ray within their limits: what is met, how far, from which side: one answer -/
theorem p_met {w r : Q4} (hw : ok_q w) (hr : ok_r r) : m_met w r ↔ k_met w r := by
  have e := p0_z hw hr
  have s := side_z hw hr.1 hr.2.1
  have sp : -48000000 ≤ (m_p w r).toInt ∧ (m_p w r).toInt ≤ 48000000 := s.2
  unfold m_met k_met k_up
  rw [e]
  constructor
  · rintro ⟨h1, h2, h3⟩
    refine ⟨h1, ?_⟩
    by_cases q : m_q w r < 0
    · rw [if_pos q, z_gt0, z_neg64 sp (by omega)]
      have := z_lt0.mp (h3.mpr q); omega
    · rw [if_neg q, z_gt0]
      have a : ¬ (m_p w r).toInt < 0 := fun z => q (h3.mp (z_lt0.mpr z))
      have b : ¬ (m_p w r).toInt = 0 := fun z => h2 (z_eq0.mpr z)
      omega
  · rintro ⟨h1, h2⟩
    refine ⟨h1, ?_⟩
    by_cases q : m_q w r < 0
    · rw [if_pos q, z_gt0, z_neg64 sp (by omega)] at h2
      refine ⟨fun z => ?_, fun _ => q, fun _ => z_lt0.mpr (by omega)⟩
      have := z_eq0.mp z; omega
    · rw [if_neg q, z_gt0] at h2
      refine ⟨fun z => ?_, fun z => ?_, fun z => absurd z q⟩
      · have := z_eq0.mp z; omega
      · have := z_lt0.mp z; omega
theorem q_z {w r : Q4} (hw : ok_q w) (hr : ok_r r) : (m_q w r).toInt = (m_b w r).toInt - (m_a w r).toInt ∧ -480000000 ≤ (m_q w r).toInt ∧ (m_q w r).toInt ≤ 480000000 ∧ (-240000000 ≤ (m_a w r).toInt ∧ (m_a w r).toInt ≤ 240000000) ∧ (-240000000 ≤ (m_b w r).toInt ∧ (m_b w r).toInt ≤ 240000000) := by
  have a := (rside_z hr hw.1 hw.2.1).2
  have b := (rside_z hr hw.2.2.1 hw.2.2.2).2
  have a' : -240000000 ≤ (m_a w r).toInt ∧ (m_a w r).toInt ≤ 240000000 := a
  have b' : -240000000 ≤ (m_b w r).toInt ∧ (m_b w r).toInt ≤ 240000000 := b
  have e : (m_q w r).toInt = (m_b w r).toInt - (m_a w r).toInt := z_sub64 b' a' (by omega)
  exact ⟨e, by omega, by omega, a', b'⟩
theorem p_vals {w r : Q4} (hw : ok_q w) (hr : ok_r r) (h : m_met w r) : m_abs (m_p w r) = k_up w r ∧ m_abs (m_q w r) = k_dn w r ∧ 0 < k_dn w r ∧ (m_p w r < 0 ↔ k_p0 w r < 0) := by
  have e := p0_z hw hr
  have s := side_z hw hr.1 hr.2.1
  have sp : -48000000 ≤ (m_p w r).toInt ∧ (m_p w r).toInt ≤ 48000000 := s.2
  obtain ⟨qe, q1, q2, qa, qb⟩ := q_z hw hr
  obtain ⟨h1, h2, h3⟩ := h
  have nz : ¬ (m_q w r).toInt = 0 := by
    intro z
    apply h1
    rw [z_lt0, z_lt0]
    constructor <;> (intro _; omega)
  unfold m_abs k_up k_dn
  rw [e]
  by_cases q : m_q w r < 0
  · have pn := h3.mpr q
    have n1 : ¬ 0 < m_p w r := by rw [z_gt0]; have := z_lt0.mp pn; omega
    have n2 : ¬ 0 < m_q w r := by rw [z_gt0]; have := z_lt0.mp q; omega
    rw [if_pos q, if_pos q, if_neg n1, if_neg n2]
    refine ⟨rfl, rfl, ?_, Iff.rfl⟩
    rw [z_gt0, z_neg64 (M := 480000000) ⟨q1, q2⟩ (by omega)]
    have := z_lt0.mp q; omega
  · have q' : ¬ (m_q w r).toInt < 0 := fun z => q (z_lt0.mpr z)
    have a : ¬ (m_p w r).toInt < 0 := fun z => q (h3.mp (z_lt0.mpr z))
    have b : ¬ (m_p w r).toInt = 0 := fun z => h2 (z_eq0.mpr z)
    have n1 : 0 < m_p w r := by rw [z_gt0]; omega
    have n2 : 0 < m_q w r := by rw [z_gt0]; omega
    rw [if_neg q, if_neg q, if_pos n1, if_pos n2]
    exact ⟨rfl, rfl, n2, Iff.rfl⟩
