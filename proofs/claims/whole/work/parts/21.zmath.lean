/-! Whole numbers: products, boxes, when two walls clash. -/
theorem z_b {x y M N : Int} (hx : -M ≤ x ∧ x ≤ M) (hy : -N ≤ y ∧ y ≤ N) : -(M * N) ≤ x * y ∧ x * y ≤ M * N := by
  have h1 := Int.mul_nonneg (show 0 ≤ M - x by omega) (show 0 ≤ N + y by omega)
  have h2 := Int.mul_nonneg (show 0 ≤ M + x by omega) (show 0 ≤ N - y by omega)
  have h3 := Int.mul_nonneg (show 0 ≤ M - x by omega) (show 0 ≤ N - y by omega)
  have h4 := Int.mul_nonneg (show 0 ≤ M + x by omega) (show 0 ≤ N + y by omega)
  simp only [Int.sub_mul, Int.add_mul, Int.mul_sub, Int.mul_add] at h1 h2 h3 h4
  constructor <;> omega
theorem z_sq {x : Int} (hx : x ≠ 0) : 0 < x * x := by
  rcases Int.lt_or_gt_of_ne hx with h | h
  · have := Int.mul_pos (show 0 < -x by omega) (show 0 < -x by omega)
    rwa [Int.neg_mul_neg] at this
  · exact Int.mul_pos h h
theorem z_nn {x y : Int} (hx : x ≠ 0) (h : 0 ≤ x * x * y) : 0 ≤ y := by
  apply Int.not_lt.mp
  intro hy
  have := Int.mul_neg_of_pos_of_neg (z_sq hx) hy
  omega
def z_box (p u : Int) : Prop := (0 ≤ p ∧ p ≤ u) ∨ (u ≤ p ∧ p ≤ 0)
theorem z_box_of {p u : Int} (h : 0 ≤ p * (u - p)) : z_box p u := by
  unfold z_box
  rcases Int.lt_trichotomy p 0 with q | q | q
  · right
    refine ⟨?_, by omega⟩
    apply Int.not_lt.mp
    intro r
    have := Int.mul_pos (show 0 < -p by omega) (show 0 < u - p by omega)
    rw [Int.neg_mul] at this
    omega
  · omega
  · left
    refine ⟨by omega, ?_⟩
    apply Int.not_lt.mp
    intro r
    have := Int.mul_neg_of_pos_of_neg q (show u - p < 0 by omega)
    omega
theorem z_of_box {p u : Int} (h : z_box p u) : 0 ≤ p * (u - p) := by
  rcases h with ⟨a, b⟩ | ⟨a, b⟩
  · exact Int.mul_nonneg a (by omega)
  · have := Int.mul_nonneg (show 0 ≤ -p by omega) (show 0 ≤ -(u - p) by omega)
    rwa [Int.neg_mul_neg] at this
/-- on a line, what lies in the one box lies in the other -/
theorem z_box2 {u1 u2 p1 p2 : Int} (hu : u1 ≠ 0) (hc : u1 * p2 = u2 * p1) (h : z_box p1 u1) : z_box p2 u2 := by
  apply z_box_of
  apply z_nn hu
  have e : u1 * u1 * (p2 * (u2 - p2)) = u2 * u2 * (p1 * (u1 - p1)) := by
    have e1 : u1 * u1 * (p2 * (u2 - p2)) = (u1 * p2) * (u1 * u2 - u1 * p2) := by grind
    have e2 : u2 * u2 * (p1 * (u1 - p1)) = (u2 * p1) * (u1 * u2 - u2 * p1) := by grind
    rw [e1, e2, hc]
  rw [e]
  rcases Int.lt_trichotomy u2 0 with q | q | q
  · exact Int.mul_nonneg (Int.le_of_lt (z_sq (by omega))) (z_of_box h)
  · rw [q]; simp
  · exact Int.mul_nonneg (Int.le_of_lt (z_sq (by omega))) (z_of_box h)
/-- the point P of the line along u: how the ends of u lie to a line along t through P -/
theorem z_key {u1 u2 p1 p2 t1 t2 : Int} (hc : u1 * p2 = u2 * p1) : u1 * (t1 * p2 - t2 * p1) = p1 * (t1 * u2 - t2 * u1) ∧ u2 * (t1 * p2 - t2 * p1) = p2 * (t1 * u2 - t2 * u1) := by
  constructor
  · have e : u1 * (t1 * p2 - t2 * p1) = t1 * (u1 * p2) - t2 * u1 * p1 := by grind
    rw [e, hc]; grind
  · have e : u2 * (t1 * p2 - t2 * p1) = t1 * u2 * p2 - t2 * (u2 * p1) := by grind
    rw [e, ← hc]; grind
theorem z_scale {u q k p : Int} (h : u * q = p * k) : u * u * (q * (k - q)) = k * k * (p * (u - p)) := by
  have e1 : u * u * (q * (k - q)) = (u * q) * (u * k - u * q) := by grind
  have e2 : k * k * (p * (u - p)) = (p * k) * (u * k - p * k) := by grind
  rw [e1, e2, h]
theorem z_in {u1 u2 p1 p2 t1 t2 : Int} (hu : u1 ≠ 0 ∨ u2 ≠ 0) (hc : u1 * p2 = u2 * p1) (h1 : z_box p1 u1) (h2 : z_box p2 u2) : 0 ≤ (t1 * p2 - t2 * p1) * ((t1 * u2 - t2 * u1) - (t1 * p2 - t2 * p1)) := by
  obtain ⟨e1, e2⟩ := z_key (t1 := t1) (t2 := t2) hc
  have hk : ∀ k : Int, 0 ≤ k * k := fun k => by
    by_cases q : k = 0
    · rw [q]; decide
    · exact Int.le_of_lt (z_sq q)
  rcases hu with hu | hu
  · apply z_nn hu
    rw [z_scale e1]
    exact Int.mul_nonneg (hk _) (z_of_box h1)
  · apply z_nn hu
    rw [z_scale e2]
    exact Int.mul_nonneg (hk _) (z_of_box h2)
theorem z_out {u1 u2 p1 p2 t1 t2 : Int} (hu : u1 ≠ 0 ∨ u2 ≠ 0) (hc : u1 * p2 = u2 * p1) (hk : t1 * u2 - t2 * u1 ≠ 0) (h : 0 ≤ (t1 * p2 - t2 * p1) * ((t1 * u2 - t2 * u1) - (t1 * p2 - t2 * p1))) : z_box p1 u1 ∧ z_box p2 u2 := by
  obtain ⟨e1, e2⟩ := z_key (t1 := t1) (t2 := t2) hc
  have f : ∀ u p : Int, u * (t1 * p2 - t2 * p1) = p * (t1 * u2 - t2 * u1) → z_box p u := by
    intro u p e
    apply z_box_of
    apply z_nn hk
    rw [← z_scale e]
    by_cases q : u = 0
    · rw [q]; simp
    · exact Int.mul_nonneg (Int.le_of_lt (z_sq q)) h
  exact ⟨f _ _ e1, f _ _ e2⟩
def z_side (a1 a2 b1 b2 x y : Int) : Int := (b1 - a1) * (y - a2) - (b2 - a2) * (x - a1)
/-- in the box of two places -/
def z_bx (a b x : Int) : Prop := (a ≤ x ∧ x ≤ b) ∨ (b ≤ x ∧ x ≤ a)
theorem z_bx_box {a b x : Int} : z_bx a b x ↔ z_box (x - a) (b - a) := by unfold z_bx z_box; omega
def z_on (a1 a2 b1 b2 x y : Int) : Prop := z_side a1 a2 b1 b2 x y = 0 ∧ z_bx a1 b1 x ∧ z_bx a2 b2 y
def z_end (a1 a2 b1 b2 x y : Int) : Prop := (a1 = x ∧ a2 = y) ∨ (b1 = x ∧ b2 = y)
theorem z_side0 {a1 a2 b1 b2 x y : Int} : z_side a1 a2 b1 b2 x y = 0 ↔ (b1 - a1) * (y - a2) = (b2 - a2) * (x - a1) := by unfold z_side; omega
/-- a place on one wall: the other wall's line parts that wall's ends, or goes through one -/
theorem z_on_sides {a1 a2 b1 b2 c1 c2 d1 d2 : Int} (hu : ¬ (a1 = b1 ∧ a2 = b2)) (h : z_on a1 a2 b1 b2 c1 c2) : z_side c1 c2 d1 d2 a1 a2 * z_side c1 c2 d1 d2 b1 b2 ≤ 0 := by
  obtain ⟨h0, h1, h2⟩ := h
  have k := z_in (u1 := b1 - a1) (u2 := b2 - a2) (p1 := c1 - a1) (p2 := c2 - a2) (t1 := d1 - c1) (t2 := d2 - c2) (by omega) (z_side0.mp h0) (z_bx_box.mp h1) (z_bx_box.mp h2)
  have e : z_side c1 c2 d1 d2 a1 a2 * z_side c1 c2 d1 d2 b1 b2 = -(((d1 - c1) * (c2 - a2) - (d2 - c2) * (c1 - a1)) * (((d1 - c1) * (b2 - a2) - (d2 - c2) * (b1 - a1)) - ((d1 - c1) * (c2 - a2) - (d2 - c2) * (c1 - a1)))) := by
    unfold z_side; grind
  rw [e]; omega
theorem z_sides_on {a1 a2 b1 b2 c1 c2 d1 d2 : Int} (hu : ¬ (a1 = b1 ∧ a2 = b2)) (h0 : z_side a1 a2 b1 b2 c1 c2 = 0) (hk : z_side a1 a2 b1 b2 d1 d2 ≠ 0) (h : z_side c1 c2 d1 d2 a1 a2 * z_side c1 c2 d1 d2 b1 b2 ≤ 0) : z_on a1 a2 b1 b2 c1 c2 := by
  have e : z_side c1 c2 d1 d2 a1 a2 * z_side c1 c2 d1 d2 b1 b2 = -(((d1 - c1) * (c2 - a2) - (d2 - c2) * (c1 - a1)) * (((d1 - c1) * (b2 - a2) - (d2 - c2) * (b1 - a1)) - ((d1 - c1) * (c2 - a2) - (d2 - c2) * (c1 - a1)))) := by
    unfold z_side; grind
  have e2 : (d1 - c1) * (b2 - a2) - (d2 - c2) * (b1 - a1) = z_side a1 a2 b1 b2 c1 c2 - z_side a1 a2 b1 b2 d1 d2 := by unfold z_side; grind
  have k := z_out (u1 := b1 - a1) (u2 := b2 - a2) (p1 := c1 - a1) (p2 := c2 - a2) (t1 := d1 - c1) (t2 := d2 - c2) (by omega) (z_side0.mp h0) (by rw [e2]; omega) (by rw [e] at h; omega)
  exact ⟨h0, z_bx_box.mpr k.1, z_bx_box.mpr k.2⟩
/-- the four sides -/
theorem z_four (a1 a2 b1 b2 c1 c2 d1 d2 : Int) : z_side a1 a2 b1 b2 d1 d2 - z_side a1 a2 b1 b2 c1 c2 = z_side c1 c2 d1 d2 a1 a2 - z_side c1 c2 d1 d2 b1 b2 := by unfold z_side; grind
theorem z_rev (a1 a2 b1 b2 x y : Int) : z_side b1 b2 a1 a2 x y = - z_side a1 a2 b1 b2 x y := by unfold z_side; grind
theorem z_self1 (a1 a2 b1 b2 : Int) : z_side a1 a2 b1 b2 a1 a2 = 0 := by unfold z_side; grind
theorem z_self2 (a1 a2 b1 b2 : Int) : z_side a1 a2 b1 b2 b1 b2 = 0 := by unfold z_side; grind
theorem z_bx_rev {a b x : Int} : z_bx b a x ↔ z_bx a b x := by unfold z_bx; omega
theorem z_on_rev {a1 a2 b1 b2 x y : Int} : z_on b1 b2 a1 a2 x y ↔ z_on a1 a2 b1 b2 x y := by
  unfold z_on; rw [z_rev, z_bx_rev (a := a1) (b := b1), z_bx_rev (a := a2) (b := b2)]
  constructor <;> (intro h; exact ⟨by omega, h.2⟩)
def z_len (a b c d : Int) : Int := min (max a b) (max c d) - max (min a b) (min c d)
def z_shares (a1 a2 b1 b2 c1 c2 d1 d2 : Int) : Prop := z_end c1 c2 d1 d2 a1 a2 ∨ z_end c1 c2 d1 d2 b1 b2
def z_same (a1 a2 b1 b2 c1 c2 d1 d2 : Int) : Prop := z_end c1 c2 d1 d2 a1 a2 ∧ z_end c1 c2 d1 d2 b1 b2
def z_lies (a1 a2 b1 b2 c1 c2 d1 d2 : Int) : Prop := (z_on a1 a2 b1 b2 c1 c2 ∧ ¬ z_end a1 a2 b1 b2 c1 c2) ∨ (z_on a1 a2 b1 b2 d1 d2 ∧ ¬ z_end a1 a2 b1 b2 d1 d2) ∨ (z_on c1 c2 d1 d2 a1 a2 ∧ ¬ z_end c1 c2 d1 d2 a1 a2) ∨ (z_on c1 c2 d1 d2 b1 b2 ∧ ¬ z_end c1 c2 d1 d2 b1 b2)
def z_opp (a b : Int) : Prop := (a < 0 ∧ 0 < b) ∨ (0 < a ∧ b < 0)
theorem z_opp_mul {a b : Int} (h : z_opp a b) : a * b ≤ 0 := by
  rcases h with ⟨h1, h2⟩ | ⟨h1, h2⟩
  · have := Int.mul_neg_of_pos_of_neg h2 h1
    rw [Int.mul_comm] at this; omega
  · have := Int.mul_neg_of_pos_of_neg h1 h2; omega
theorem z_mul_opp {a b : Int} (h : a * b ≤ 0) (ha : a ≠ 0) (hb : b ≠ 0) : z_opp a b := by
  unfold z_opp
  rcases Int.lt_or_gt_of_ne ha with h1 | h1 <;> rcases Int.lt_or_gt_of_ne hb with h2 | h2
  · have := Int.mul_pos (show 0 < -a by omega) (show 0 < -b by omega)
    rw [Int.neg_mul_neg] at this; omega
  · omega
  · omega
  · have := Int.mul_pos h1 h2; omega
/-- walls that are not on one line -/
theorem z_case2 {a1 a2 b1 b2 c1 c2 d1 d2 : Int} (hu : ¬ (a1 = b1 ∧ a2 = b2)) (ht : ¬ (c1 = d1 ∧ c2 = d2)) (hn : ¬ (z_side a1 a2 b1 b2 c1 c2 = 0 ∧ z_side a1 a2 b1 b2 d1 d2 = 0)) :
    (¬ z_shares a1 a2 b1 b2 c1 c2 d1 d2 ∧ z_side a1 a2 b1 b2 c1 c2 * z_side a1 a2 b1 b2 d1 d2 ≤ 0 ∧ z_side c1 c2 d1 d2 a1 a2 * z_side c1 c2 d1 d2 b1 b2 ≤ 0) ↔
    ((z_opp (z_side a1 a2 b1 b2 c1 c2) (z_side a1 a2 b1 b2 d1 d2) ∧ z_opp (z_side c1 c2 d1 d2 a1 a2) (z_side c1 c2 d1 d2 b1 b2)) ∨ z_same a1 a2 b1 b2 c1 c2 d1 d2 ∨ z_lies a1 a2 b1 b2 c1 c2 d1 d2) := by
  have four := z_four a1 a2 b1 b2 c1 c2 d1 d2
  have eAC : a1 = c1 → a2 = c2 → z_side a1 a2 b1 b2 c1 c2 = 0 := fun h1 h2 => by rw [← h1, ← h2]; exact z_self1 ..
  have eBC : b1 = c1 → b2 = c2 → z_side a1 a2 b1 b2 c1 c2 = 0 := fun h1 h2 => by rw [← h1, ← h2]; exact z_self2 ..
  have eAD : a1 = d1 → a2 = d2 → z_side a1 a2 b1 b2 d1 d2 = 0 := fun h1 h2 => by rw [← h1, ← h2]; exact z_self1 ..
  have eBD : b1 = d1 → b2 = d2 → z_side a1 a2 b1 b2 d1 d2 = 0 := fun h1 h2 => by rw [← h1, ← h2]; exact z_self2 ..
  have fAC : a1 = c1 → a2 = c2 → z_side c1 c2 d1 d2 a1 a2 = 0 := fun h1 h2 => by rw [h1, h2]; exact z_self1 ..
  have fAD : a1 = d1 → a2 = d2 → z_side c1 c2 d1 d2 a1 a2 = 0 := fun h1 h2 => by rw [h1, h2]; exact z_self2 ..
  have fBC : b1 = c1 → b2 = c2 → z_side c1 c2 d1 d2 b1 b2 = 0 := fun h1 h2 => by rw [h1, h2]; exact z_self1 ..
  have fBD : b1 = d1 → b2 = d2 → z_side c1 c2 d1 d2 b1 b2 = 0 := fun h1 h2 => by rw [h1, h2]; exact z_self2 ..
  constructor
  · rintro ⟨hs, hab, hcd⟩
    have hne : z_side a1 a2 b1 b2 c1 c2 ≠ z_side a1 a2 b1 b2 d1 d2 := by
      intro q
      rw [← q] at hab hn
      have z : z_side a1 a2 b1 b2 c1 c2 ≠ 0 := fun z => hn ⟨z, z⟩
      have := z_sq z
      omega
    by_cases ha : z_side a1 a2 b1 b2 c1 c2 = 0
    · right; right; left
      refine ⟨z_sides_on hu ha (by omega) hcd, ?_⟩
      intro q
      apply hs
      unfold z_end at q
      unfold z_shares z_end
      omega
    · by_cases hb : z_side a1 a2 b1 b2 d1 d2 = 0
      · right; right; right; left
        refine ⟨?_, ?_⟩
        · apply z_sides_on hu hb (d1 := c1) (d2 := c2) ha
          rw [z_rev c1 c2 d1 d2, z_rev c1 c2 d1 d2, Int.neg_mul_neg]
          exact hcd
        · intro q
          apply hs
          unfold z_end at q
          unfold z_shares z_end
          omega
      · by_cases hc : z_side c1 c2 d1 d2 a1 a2 = 0
        · right; right; right; right; left
          refine ⟨z_sides_on ht hc (by omega) hab, ?_⟩
          intro q
          apply hs
          unfold z_end at q
          unfold z_shares z_end
          omega
        · by_cases hd : z_side c1 c2 d1 d2 b1 b2 = 0
          · right; right; right; right; right
            refine ⟨?_, ?_⟩
            · apply z_sides_on ht hd (d1 := a1) (d2 := a2) hc
              rw [z_rev a1 a2 b1 b2, z_rev a1 a2 b1 b2, Int.neg_mul_neg]
              exact hab
            · intro q
              apply hs
              unfold z_end at q
              unfold z_shares z_end
              omega
          · left
            exact ⟨z_mul_opp hab ha hb, z_mul_opp hcd hc hd⟩
  · rintro (⟨h1, h2⟩ | h | h)
    · refine ⟨?_, z_opp_mul h1, z_opp_mul h2⟩
      intro q
      unfold z_shares z_end at q
      unfold z_opp at h1 h2
      rcases q with (⟨q1, q2⟩ | ⟨q1, q2⟩) | (⟨q1, q2⟩ | ⟨q1, q2⟩)
      · have := eAC q1.symm q2.symm; omega
      · have := eAD q1.symm q2.symm; omega
      · have := eBC q1.symm q2.symm; omega
      · have := eBD q1.symm q2.symm; omega
    · exfalso
      unfold z_same z_end at h
      rcases h with ⟨⟨q1, q2⟩ | ⟨q1, q2⟩, ⟨r1, r2⟩ | ⟨r1, r2⟩⟩
      · exact hu ⟨by omega, by omega⟩
      · exact hn ⟨eAC q1.symm q2.symm, eBD r1.symm r2.symm⟩
      · exact hn ⟨eBC r1.symm r2.symm, eAD q1.symm q2.symm⟩
      · exact hu ⟨by omega, by omega⟩
    · unfold z_lies at h
      rcases h with ⟨h, hq⟩ | ⟨h, hq⟩ | ⟨h, hq⟩ | ⟨h, hq⟩
      · have h0 := h.1
        refine ⟨?_, by rw [h0]; simp, z_on_sides hu h⟩
        intro q
        unfold z_shares z_end at q
        unfold z_end at hq
        rcases q with (⟨q1, q2⟩ | ⟨q1, q2⟩) | (⟨q1, q2⟩ | ⟨q1, q2⟩)
        · exact hq (Or.inl ⟨q1.symm, q2.symm⟩)
        · exact hn ⟨h0, eAD q1.symm q2.symm⟩
        · exact hq (Or.inr ⟨q1.symm, q2.symm⟩)
        · exact hn ⟨h0, eBD q1.symm q2.symm⟩
      · have h0 := h.1
        refine ⟨?_, by rw [h0]; simp, ?_⟩
        · intro q
          unfold z_shares z_end at q
          unfold z_end at hq
          rcases q with (⟨q1, q2⟩ | ⟨q1, q2⟩) | (⟨q1, q2⟩ | ⟨q1, q2⟩)
          · exact hn ⟨eAC q1.symm q2.symm, h0⟩
          · exact hq (Or.inl ⟨q1.symm, q2.symm⟩)
          · exact hn ⟨eBC q1.symm q2.symm, h0⟩
          · exact hq (Or.inr ⟨q1.symm, q2.symm⟩)
        · have := z_on_sides (d1 := c1) (d2 := c2) hu h
          rw [z_rev c1 c2 d1 d2, z_rev c1 c2 d1 d2, Int.neg_mul_neg] at this
          exact this
      · have h0 := h.1
        refine ⟨?_, z_on_sides ht h, by rw [h0]; simp⟩
        intro q
        unfold z_shares z_end at q
        unfold z_end at hq
        rcases q with (⟨q1, q2⟩ | ⟨q1, q2⟩) | (⟨q1, q2⟩ | ⟨q1, q2⟩)
        · exact hq (Or.inl ⟨q1, q2⟩)
        · exact hq (Or.inr ⟨q1, q2⟩)
        · have x1 := eBC q1.symm q2.symm
          have x2 := fBC q1.symm q2.symm
          exact hn ⟨x1, by omega⟩
        · have x1 := eBD q1.symm q2.symm
          have x2 := fBD q1.symm q2.symm
          exact hn ⟨by omega, x1⟩
      · have h0 := h.1
        refine ⟨?_, ?_, by rw [h0]; simp⟩
        · intro q
          unfold z_shares z_end at q
          unfold z_end at hq
          rcases q with (⟨q1, q2⟩ | ⟨q1, q2⟩) | (⟨q1, q2⟩ | ⟨q1, q2⟩)
          · have x1 := eAC q1.symm q2.symm
            have x2 := fAC q1.symm q2.symm
            exact hn ⟨x1, by omega⟩
          · have x1 := eAD q1.symm q2.symm
            have x2 := fAD q1.symm q2.symm
            exact hn ⟨by omega, x1⟩
          · exact hq (Or.inl ⟨q1, q2⟩)
          · exact hq (Or.inr ⟨q1, q2⟩)
        · have := z_on_sides (d1 := a1) (d2 := a2) ht h
          rw [z_rev a1 a2 b1 b2, z_rev a1 a2 b1 b2, Int.neg_mul_neg] at this
          exact this
/-- walls on one line, seen along one axis -/
def z_E (a b c d : Int) : Prop := ((a = c ∧ b = d) ∨ (a = d ∧ b = c)) ∨ (z_bx a b c ∧ c ≠ a ∧ c ≠ b) ∨ (z_bx a b d ∧ d ≠ a ∧ d ≠ b) ∨ (z_bx c d a ∧ a ≠ c ∧ a ≠ d) ∨ (z_bx c d b ∧ b ≠ c ∧ b ≠ d)
theorem z_len_E {a b c d : Int} (h1 : a ≠ b) (h2 : c ≠ d) : 0 < z_len a b c d ↔ z_E a b c d := by
  unfold z_len z_E z_bx; omega
def z_SL (a1 a2 b1 b2 c1 c2 d1 d2 : Int) : Prop := z_same a1 a2 b1 b2 c1 c2 d1 d2 ∨ ((z_bx a1 b1 c1 ∧ z_bx a2 b2 c2) ∧ ¬ z_end a1 a2 b1 b2 c1 c2) ∨ ((z_bx a1 b1 d1 ∧ z_bx a2 b2 d2) ∧ ¬ z_end a1 a2 b1 b2 d1 d2) ∨ ((z_bx c1 d1 a1 ∧ z_bx c2 d2 a2) ∧ ¬ z_end c1 c2 d1 d2 a1 a2) ∨ ((z_bx c1 d1 b1 ∧ z_bx c2 d2 b2) ∧ ¬ z_end c1 c2 d1 d2 b1 b2)
theorem z_can {u x y : Int} (hu : u ≠ 0) (h : u * x = u * y) : x = y := Int.eq_of_mul_eq_mul_left hu h
theorem z_proj {a1 a2 b1 b2 c1 c2 : Int} (hu : b1 - a1 ≠ 0) (hc : (b1 - a1) * (c2 - a2) = (b2 - a2) * (c1 - a1)) : (c1 = a1 → c2 = a2) ∧ (c1 = b1 → c2 = b2) ∧ (z_bx a1 b1 c1 → z_bx a2 b2 c2) := by
  refine ⟨?_, ?_, ?_⟩
  · intro h
    have e : (b1 - a1) * (c2 - a2) = (b1 - a1) * 0 := by rw [hc, h]; simp
    have := z_can hu e; omega
  · intro h
    have e : (b1 - a1) * (c2 - a2) = (b1 - a1) * (b2 - a2) := by rw [hc, h]; exact Int.mul_comm ..
    have := z_can hu e; omega
  · intro h
    exact z_bx_box.mpr (z_box2 hu hc (z_bx_box.mp h))
theorem z_LX {a1 a2 b1 b2 c1 c2 d1 d2 : Int} (hu : b1 - a1 ≠ 0) (hc : (b1 - a1) * (c2 - a2) = (b2 - a2) * (c1 - a1)) (hd : (b1 - a1) * (d2 - a2) = (b2 - a2) * (d1 - a1)) (ht : ¬ (c1 = d1 ∧ c2 = d2)) : 0 < z_len a1 b1 c1 d1 ↔ z_SL a1 a2 b1 b2 c1 c2 d1 d2 := by
  have ht1 : d1 - c1 ≠ 0 := by
    intro q
    have e : d1 = c1 := by omega
    rw [e] at hd
    have e2 : (b1 - a1) * (d2 - a2) = (b1 - a1) * (c2 - a2) := by rw [hd, hc]
    have := z_can hu e2
    exact ht ⟨by omega, by omega⟩
  have par : (b1 - a1) * (d2 - c2) = (b2 - a2) * (d1 - c1) := by grind
  have ca : (d1 - c1) * (a2 - c2) = (d2 - c2) * (a1 - c1) := by
    apply z_can hu
    have e1 : (b1 - a1) * ((d1 - c1) * (a2 - c2)) = -((d1 - c1) * ((b1 - a1) * (c2 - a2))) := by grind
    have e2 : (b1 - a1) * ((d2 - c2) * (a1 - c1)) = ((b1 - a1) * (d2 - c2)) * (a1 - c1) := by grind
    rw [e1, e2, hc, par]; grind
  have cb : (d1 - c1) * (b2 - c2) = (d2 - c2) * (b1 - c1) := by
    apply z_can hu
    have e1 : (b1 - a1) * ((d1 - c1) * (b2 - c2)) = (d1 - c1) * ((b1 - a1) * (b2 - a2) - (b1 - a1) * (c2 - a2)) := by grind
    have e2 : (b1 - a1) * ((d2 - c2) * (b1 - c1)) = ((b1 - a1) * (d2 - c2)) * (b1 - c1) := by grind
    rw [e1, e2, hc, par]; grind
  obtain ⟨pc1, pc2, pc3⟩ := z_proj hu hc
  obtain ⟨pd1, pd2, pd3⟩ := z_proj hu hd
  obtain ⟨pa1, pa2, pa3⟩ := z_proj ht1 ca
  obtain ⟨pb1, pb2, pb3⟩ := z_proj ht1 cb
  rw [z_len_E (by omega) (by omega)]
  unfold z_E z_SL z_same z_end
  constructor
  · rintro ((⟨h1, h2⟩ | ⟨h1, h2⟩) | ⟨h, h1, h2⟩ | ⟨h, h1, h2⟩ | ⟨h, h1, h2⟩ | ⟨h, h1, h2⟩)
    · left; exact ⟨Or.inl ⟨h1.symm, (pc1 h1.symm)⟩, Or.inr ⟨h2.symm, pd2 h2.symm⟩⟩
    · left; exact ⟨Or.inr ⟨h1.symm, (pd1 h1.symm)⟩, Or.inl ⟨h2.symm, pc2 h2.symm⟩⟩
    · right; left; exact ⟨⟨h, pc3 h⟩, by omega⟩
    · right; right; left; exact ⟨⟨h, pd3 h⟩, by omega⟩
    · right; right; right; left; exact ⟨⟨h, pa3 h⟩, by omega⟩
    · right; right; right; right; exact ⟨⟨h, pb3 h⟩, by omega⟩
  · rintro (⟨h1, h2⟩ | ⟨⟨h, h'⟩, g⟩ | ⟨⟨h, h'⟩, g⟩ | ⟨⟨h, h'⟩, g⟩ | ⟨⟨h, h'⟩, g⟩)
    · left; omega
    · right; left
      refine ⟨h, ?_, ?_⟩
      · intro q; exact g (Or.inl ⟨q.symm, (pc1 q).symm⟩)
      · intro q; exact g (Or.inr ⟨q.symm, (pc2 q).symm⟩)
    · right; right; left
      refine ⟨h, ?_, ?_⟩
      · intro q; exact g (Or.inl ⟨q.symm, (pd1 q).symm⟩)
      · intro q; exact g (Or.inr ⟨q.symm, (pd2 q).symm⟩)
    · right; right; right; left
      refine ⟨h, ?_, ?_⟩
      · intro q; exact g (Or.inl ⟨q.symm, (pa1 q).symm⟩)
      · intro q; exact g (Or.inr ⟨q.symm, (pa2 q).symm⟩)
    · right; right; right; right
      refine ⟨h, ?_, ?_⟩
      · intro q; exact g (Or.inl ⟨q.symm, (pb1 q).symm⟩)
      · intro q; exact g (Or.inr ⟨q.symm, (pb2 q).symm⟩)
theorem z_len0 {a c d : Int} (h1 : c = a) (h2 : d = a) : ¬ 0 < z_len a a c d := by unfold z_len; omega
theorem z_SL_swap {a1 a2 b1 b2 c1 c2 d1 d2 : Int} : z_SL a2 a1 b2 b1 c2 c1 d2 d1 ↔ z_SL a1 a2 b1 b2 c1 c2 d1 d2 := by
  have e : ∀ p1 p2 q1 q2 x y : Int, z_end p2 p1 q2 q1 y x ↔ z_end p1 p2 q1 q2 x y := by intros; unfold z_end; omega
  unfold z_SL z_same
  rw [e c1 c2 d1 d2 a1 a2, e c1 c2 d1 d2 b1 b2, e a1 a2 b1 b2 c1 c2, e a1 a2 b1 b2 d1 d2, And.comm (a := z_bx a2 b2 c2), And.comm (a := z_bx a2 b2 d2), And.comm (a := z_bx c2 d2 a2), And.comm (a := z_bx c2 d2 b2)]
theorem z_case1 {a1 a2 b1 b2 c1 c2 d1 d2 : Int} (hu : ¬ (a1 = b1 ∧ a2 = b2)) (ht : ¬ (c1 = d1 ∧ c2 = d2)) (h1 : z_side a1 a2 b1 b2 c1 c2 = 0) (h2 : z_side a1 a2 b1 b2 d1 d2 = 0) :
    (0 < z_len a1 b1 c1 d1 ∨ 0 < z_len a2 b2 c2 d2) ↔
    ((z_opp (z_side a1 a2 b1 b2 c1 c2) (z_side a1 a2 b1 b2 d1 d2) ∧ z_opp (z_side c1 c2 d1 d2 a1 a2) (z_side c1 c2 d1 d2 b1 b2)) ∨ z_same a1 a2 b1 b2 c1 c2 d1 d2 ∨ z_lies a1 a2 b1 b2 c1 c2 d1 d2) := by
  have four := z_four a1 a2 b1 b2 c1 c2 d1 d2
  have l1 := z_side0.mp h1
  have l2 := z_side0.mp h2
  have hc0 : z_side c1 c2 d1 d2 a1 a2 = 0 := by
    have key : ∀ u : Int, (u = b1 - a1 ∨ u = b2 - a2) → u * z_side c1 c2 d1 d2 a1 a2 = 0 := by
      intro u hu
      unfold z_side at h1 h2 ⊢
      rcases hu with hu | hu <;> subst hu <;> grind
    by_cases q : b1 - a1 = 0
    · exact (Int.mul_eq_zero.mp (key (b2 - a2) (Or.inr rfl))).resolve_left (by omega)
    · exact (Int.mul_eq_zero.mp (key (b1 - a1) (Or.inl rfl))).resolve_left q
  have hd0 : z_side c1 c2 d1 d2 b1 b2 = 0 := by omega
  have R : ((z_opp (z_side a1 a2 b1 b2 c1 c2) (z_side a1 a2 b1 b2 d1 d2) ∧ z_opp (z_side c1 c2 d1 d2 a1 a2) (z_side c1 c2 d1 d2 b1 b2)) ∨ z_same a1 a2 b1 b2 c1 c2 d1 d2 ∨ z_lies a1 a2 b1 b2 c1 c2 d1 d2) ↔ z_SL a1 a2 b1 b2 c1 c2 d1 d2 := by
    unfold z_SL z_lies z_on z_opp
    rw [h1, h2, hc0, hd0]
    simp
  rw [R]
  by_cases q1 : b1 - a1 = 0
  · have q2 : b2 - a2 ≠ 0 := by omega
    have e1 : c1 = a1 := by
      have e : (b2 - a2) * (c1 - a1) = (b2 - a2) * 0 := by rw [← l1, q1]; simp
      have := z_can q2 e; omega
    have e2 : d1 = a1 := by
      have e : (b2 - a2) * (d1 - a1) = (b2 - a2) * 0 := by rw [← l2, q1]; simp
      have := z_can q2 e; omega
    have e3 : b1 = a1 := by omega
    have n1 : ¬ 0 < z_len a1 b1 c1 d1 := by rw [e3]; exact z_len0 e1 e2
    have y := z_LX (a1 := a2) (a2 := a1) (b1 := b2) (b2 := b1) (c1 := c2) (c2 := c1) (d1 := d2) (d2 := d1) q2 l1.symm l2.symm (by omega)
    rw [← z_SL_swap, ← y]
    constructor
    · intro h; exact h.resolve_left n1
    · intro h; exact Or.inr h
  · have x := z_LX q1 l1 l2 ht
    by_cases q2 : b2 - a2 = 0
    · have e1 : c2 = a2 := by
        have e : (b1 - a1) * (c2 - a2) = (b1 - a1) * 0 := by rw [l1, q2]; simp
        have := z_can q1 e; omega
      have e2 : d2 = a2 := by
        have e : (b1 - a1) * (d2 - a2) = (b1 - a1) * 0 := by rw [l2, q2]; simp
        have := z_can q1 e; omega
      have e3 : b2 = a2 := by omega
      have n2 : ¬ 0 < z_len a2 b2 c2 d2 := by rw [e3]; exact z_len0 e1 e2
      rw [← x]
      constructor
      · intro h; exact h.resolve_right n2
      · intro h; exact Or.inl h
    · have y := z_LX (a1 := a2) (a2 := a1) (b1 := b2) (b2 := b1) (c1 := c2) (c2 := c1) (d1 := d2) (d2 := d1) q2 l1.symm l2.symm (by omega)
      rw [z_SL_swap] at y
      rw [x, y]
      simp
