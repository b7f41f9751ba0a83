/-! Pure words: what class and reference compute, as machine numbers; no machine here. -/
abbrev Q4 : Type := Int32 × Int32 × Int32 × Int32
def m_cross (px py qx qy : Int64) : Int64 := px * qy - py * qx
def m_side (w : Q4) (x y : Int32) : Int64 := m_cross (w.2.2.1 - w.1).toInt64 (w.2.2.2 - w.2.1).toInt64 (x - w.1).toInt64 (y - w.2.1).toInt64
def m_rside (r : Q4) (x y : Int32) : Int64 := m_cross r.2.2.1.toInt64 r.2.2.2.toInt64 (x - r.1).toInt64 (y - r.2.1).toInt64
def m_min (x y : Int32) : Int32 := if y < x then y else x
def m_max (x y : Int32) : Int32 := if x < y then y else x
def m_abs (x : Int64) : Int64 := if 0 < x then x else -x
def m_len (a b c d : Int32) : Int32 := m_min (m_max a b) (m_max c d) - m_max (m_min a b) (m_min c d)
-- the class
abbrev m_btw (v lo hi : Int32) : Prop := lo ≤ v ∧ v ≤ hi
abbrev m_cov (w : Q4) (x y : Int32) : Prop := m_side w x y = 0 ∧ m_btw x (m_min w.1 w.2.2.1) (m_max w.1 w.2.2.1) ∧ m_btw y (m_min w.2.1 w.2.2.2) (m_max w.2.1 w.2.2.2)
abbrev m_end (w : Q4) (x y : Int32) : Prop := (x = w.1 ∧ y = w.2.1) ∨ (x = w.2.2.1 ∧ y = w.2.2.2)
abbrev m_shares (v w : Q4) : Prop := m_end w v.1 v.2.1 ∨ m_end w v.2.2.1 v.2.2.2
abbrev m_ovl (v w : Q4) : Prop := 0 < m_len v.1 v.2.2.1 w.1 w.2.2.1 ∨ 0 < m_len v.2.1 v.2.2.2 w.2.1 w.2.2.2
abbrev m_clash (v w : Q4) : Prop := ((m_side v w.1 w.2.1 = 0 ∧ m_side v w.2.2.1 w.2.2.2 = 0) ∧ m_ovl v w) ∨ (¬ (m_side v w.1 w.2.1 = 0 ∧ m_side v w.2.2.1 w.2.2.2 = 0) ∧ ¬ m_shares v w ∧ m_side v w.1 w.2.1 * m_side v w.2.2.1 w.2.2.2 ≤ 0 ∧ m_side w v.1 v.2.1 * m_side w v.2.2.1 v.2.2.2 ≤ 0)
def m_a (w r : Q4) : Int64 := m_rside r w.1 w.2.1
def m_b (w r : Q4) : Int64 := m_rside r w.2.2.1 w.2.2.2
def m_p (w r : Q4) : Int64 := m_side w r.1 r.2.1
def m_q (w r : Q4) : Int64 := m_b w r - m_a w r
def m_bI (b : Bool) : Int32 := if b then 1 else 0
abbrev m_met (w r : Q4) : Prop := ¬ (m_a w r < 0 ↔ m_b w r < 0) ∧ ¬ m_p w r = 0 ∧ (m_p w r < 0 ↔ m_q w r < 0)
-- the reference
def k_lo (x y : Int32) : Int32 := if x < y then x else y
def k_hi (x y : Int32) : Int32 := if x < y then y else x
abbrev k_on (w : Q4) (x y : Int32) : Prop := m_side w x y = 0 ∧ k_lo w.1 w.2.2.1 ≤ x ∧ x ≤ k_hi w.1 w.2.2.1 ∧ k_lo w.2.1 w.2.2.2 ≤ y ∧ y ≤ k_hi w.2.1 w.2.2.2
abbrev k_end (w : Q4) (x y : Int32) : Prop := (w.1 = x ∧ w.2.1 = y) ∨ (w.2.2.1 = x ∧ w.2.2.2 = y)
abbrev k_opp (a b : Int64) : Prop := (a < 0 ∧ 0 < b) ∨ (0 < a ∧ b < 0)
abbrev k_cuts (v w : Q4) : Prop := k_opp (m_side v w.1 w.2.1) (m_side v w.2.2.1 w.2.2.2) ∧ k_opp (m_side w v.1 v.2.1) (m_side w v.2.2.1 v.2.2.2)
abbrev k_same (v w : Q4) : Prop := k_end w v.1 v.2.1 ∧ k_end w v.2.2.1 v.2.2.2
abbrev k_lies (v w : Q4) : Prop := (k_on v w.1 w.2.1 ∧ ¬ k_end v w.1 w.2.1) ∨ (k_on v w.2.2.1 w.2.2.2 ∧ ¬ k_end v w.2.2.1 w.2.2.2) ∨ (k_on w v.1 v.2.1 ∧ ¬ k_end w v.1 v.2.1) ∨ (k_on w v.2.2.1 v.2.2.2 ∧ ¬ k_end w v.2.2.1 v.2.2.2)
abbrev k_apart (v w : Q4) : Prop := ¬ k_cuts v w ∧ ¬ k_same v w ∧ ¬ k_lies v w
def k_p0 (w r : Q4) : Int64 := m_cross (w.1 - r.1).toInt64 (w.2.1 - r.2.1).toInt64 (w.2.2.1 - w.1).toInt64 (w.2.2.2 - w.2.1).toInt64
def k_up (w r : Q4) : Int64 := if m_q w r < 0 then -(k_p0 w r) else k_p0 w r
def k_dn (w r : Q4) : Int64 := if m_q w r < 0 then -(m_q w r) else m_q w r
abbrev k_met (w r : Q4) : Prop := ¬ (m_a w r < 0 ↔ m_b w r < 0) ∧ 0 < k_up w r
-- limits
def ok_c (x : Int32) (m : Int) : Prop := -m ≤ x.toInt ∧ x.toInt ≤ m
def ok_w (w : Q4) : Prop := ok_c w.1 2000 ∧ ok_c w.2.1 2000 ∧ ok_c w.2.2.1 2000 ∧ ok_c w.2.2.2 2000 ∧ ¬ (w.1 = w.2.2.1 ∧ w.2.1 = w.2.2.2)
def ok_r (r : Q4) : Prop := ok_c r.1 4000 ∧ ok_c r.2.1 4000 ∧ ok_c r.2.2.1 20000 ∧ ok_c r.2.2.2 20000
-- the met walls in their order: by insertion from behind
def g_pos (nr : Nat → Nat → Prop) (w : Nat) (f : Nat → Nat) (k p : Nat) : Prop := p ≤ k ∧ (∀ j, p ≤ j → j < k → nr w (f j)) ∧ (0 < p → ¬ nr w (f (p - 1)))
def g_ins (f : Nat → Nat) (p w : Nat) : Nat → Nat := fun j => if j < p then f j else if j = p then w else f (j - 1)
/-- n walls of those below k are met, the j-th is f j -/
def g_ok (mt : Nat → Prop) (nr : Nat → Nat → Prop) : Nat → Nat → (Nat → Nat) → Prop
  | 0, n, _ => n = 0
  | k + 1, n, f => (¬ mt k ∧ g_ok mt nr k n f) ∨ (mt k ∧ ∃ (n0 : Nat) (f0 : Nat → Nat) (p : Nat), g_ok mt nr k n0 f0 ∧ n = n0 + 1 ∧ g_pos nr k f0 n0 p ∧ ∀ j, j < n → f j = g_ins f0 p k j)
theorem g_pos_uniq {nr nr' : Nat → Nat → Prop} {w : Nat} {f f' : Nat → Nat} {k p p' : Nat} (h : g_pos nr w f k p) (h' : g_pos nr' w f' k p') (hf : ∀ j, j < k → f j = f' j) (hn : ∀ j, j < k → (nr w (f j) ↔ nr' w (f j))) : p = p' := by
  obtain ⟨h1, h2, h3⟩ := h
  obtain ⟨g1, g2, g3⟩ := h'
  rcases Nat.lt_trichotomy p p' with q | q | q
  · exfalso
    have a := g3 (by omega)
    have b := h2 (p' - 1) (by omega) (by omega)
    rw [← hf (p' - 1) (by omega)] at a
    exact a ((hn (p' - 1) (by omega)).mp b)
  · exact q
  · exfalso
    have a := h3 (by omega)
    have b := g2 (p - 1) (by omega) (by omega)
    rw [← hf (p - 1) (by omega)] at b
    exact a ((hn (p - 1) (by omega)).mpr b)
theorem g_ok_le {mt : Nat → Prop} {nr : Nat → Nat → Prop} : ∀ {k n : Nat} {f : Nat → Nat}, g_ok mt nr k n f → n ≤ k
  | 0, n, f, h => by simp only [g_ok] at h; omega
  | k + 1, n, f, h => by
    simp only [g_ok] at h
    rcases h with ⟨_, h⟩ | ⟨_, n0, f0, p, h, h1, _⟩
    · have := g_ok_le h; omega
    · have := g_ok_le h; omega
theorem g_ok_in {mt : Nat → Prop} {nr : Nat → Nat → Prop} : ∀ {k n : Nat} {f : Nat → Nat}, g_ok mt nr k n f → ∀ j, j < n → f j < k ∧ mt (f j)
  | 0, n, f, h, j, hj => by simp only [g_ok] at h; omega
  | k + 1, n, f, h, j, hj => by
    simp only [g_ok] at h
    rcases h with ⟨_, h⟩ | ⟨hk, n0, f0, p, h, h1, h2, h3⟩
    · have := g_ok_in h j hj; exact ⟨by omega, this.2⟩
    · rw [h3 j hj]
      unfold g_ins
      have hp := h2.1
      by_cases a : j < p
      · rw [if_pos a]; have := g_ok_in h j (by omega); exact ⟨by omega, this.2⟩
      · rw [if_neg a]
        by_cases b : j = p
        · rw [if_pos b]; exact ⟨by omega, hk⟩
        · rw [if_neg b]; have := g_ok_in h (j - 1) (by omega); exact ⟨by omega, this.2⟩
theorem g_ok_uniq {mt mt' : Nat → Prop} {nr nr' : Nat → Nat → Prop} (N : Nat) (hm : ∀ k, k < N → (mt k ↔ mt' k)) (hn : ∀ w v, v < w → w < N → mt w → mt v → (nr w v ↔ nr' w v)) : ∀ {k n n' : Nat} {f f' : Nat → Nat}, k ≤ N → g_ok mt nr k n f → g_ok mt' nr' k n' f' → n = n' ∧ ∀ j, j < n → f j = f' j
  | 0, n, n', f, f', _, h, h' => by simp only [g_ok] at h h'; exact ⟨by omega, fun j hj => by omega⟩
  | k + 1, n, n', f, f', hk, h, h' => by
    simp only [g_ok] at h h'
    have hmk := hm k (by omega)
    rcases h with ⟨a, h⟩ | ⟨a, n0, f0, p, h, h1, h2, h3⟩ <;> rcases h' with ⟨a', h'⟩ | ⟨a', n0', f0', p', h', h1', h2', h3'⟩
    · exact g_ok_uniq N hm hn (by omega) h h'
    · exact absurd (hmk.mpr a') a
    · exact absurd (hmk.mp a) a'
    · obtain ⟨e1, e2⟩ := g_ok_uniq N hm hn (by omega) h h'
      subst e1
      have ep : p = p' := g_pos_uniq h2 h2' e2 (fun j hj => by
        have q := g_ok_in h j hj
        exact hn k (f0 j) q.1 (by omega) a q.2)
      subst ep
      refine ⟨by omega, fun j hj => ?_⟩
      rw [h3 j hj, h3' j (by omega)]
      have hp := h2.1
      unfold g_ins
      by_cases c1 : j < p
      · rw [if_pos c1, if_pos c1]; exact e2 j (by omega)
      · rw [if_neg c1, if_neg c1]
        by_cases c2 : j = p
        · rw [if_pos c2, if_pos c2]
        · rw [if_neg c2, if_neg c2]; exact e2 (j - 1) (by omega)
/-- how many j below n have P (f j) -/
def g_cnt (P : Nat → Prop) (f : Nat → Nat) : Nat → Nat → Prop
  | 0, c => c = 0
  | n + 1, c => (P (f n) ∧ ∃ d, g_cnt P f n d ∧ c = d + 1) ∨ (¬ P (f n) ∧ g_cnt P f n c)
theorem g_cnt_congr {P : Nat → Prop} {f f' : Nat → Nat} : ∀ {n c : Nat}, (∀ j, j < n → f j = f' j) → g_cnt P f n c → g_cnt P f' n c
  | 0, c, _, h => h
  | n + 1, c, e, h => by
    simp only [g_cnt] at h ⊢
    rw [← e n (by omega)]
    rcases h with ⟨a, d, h, h1⟩ | ⟨a, h⟩
    · exact Or.inl ⟨a, d, g_cnt_congr (fun j hj => e j (by omega)) h, h1⟩
    · exact Or.inr ⟨a, g_cnt_congr (fun j hj => e j (by omega)) h⟩
theorem g_cnt_uniq {P P' : Nat → Prop} {f : Nat → Nat} : ∀ {n c c' : Nat}, (∀ j, j < n → (P (f j) ↔ P' (f j))) → g_cnt P f n c → g_cnt P' f n c' → c = c'
  | 0, c, c', _, h, h' => by simp only [g_cnt] at h h'; omega
  | n + 1, c, c', e, h, h' => by
    simp only [g_cnt] at h h'
    have en := e n (by omega)
    rcases h with ⟨a, d, h, h1⟩ | ⟨a, h⟩ <;> rcases h' with ⟨a', d', h', h1'⟩ | ⟨a', h'⟩
    · have := g_cnt_uniq (fun j hj => e j (by omega)) h h'; omega
    · exact absurd (en.mp a) a'
    · exact absurd (en.mpr a') a
    · exact g_cnt_uniq (fun j hj => e j (by omega)) h h'
theorem g_cnt_ex (P : Nat → Prop) (f : Nat → Nat) : ∀ n, ∃ c, g_cnt P f n c
  | 0 => ⟨0, rfl⟩
  | n + 1 => by
    obtain ⟨c, h⟩ := g_cnt_ex P f n
    by_cases a : P (f n)
    · exact ⟨c + 1, Or.inl ⟨a, c, h, rfl⟩⟩
    · exact ⟨c, Or.inr ⟨a, h⟩⟩
theorem g_cnt_ins {P : Nat → Prop} {f : Nat → Nat} {w : Nat} : ∀ {n c p : Nat}, p ≤ n → g_cnt P f n c → ((P w → g_cnt P (g_ins f p w) (n + 1) (c + 1)) ∧ (¬ P w → g_cnt P (g_ins f p w) (n + 1) c))
  | n, c, p, hp, h => by
    by_cases e : p = n
    · subst e
      have hf : ∀ j, j < p → f j = g_ins f p w j := fun j hj => by unfold g_ins; rw [if_pos hj]
      have hw : g_ins f p w p = w := by unfold g_ins; rw [if_neg (by omega), if_pos rfl]
      have h1 := g_cnt_congr hf h
      constructor
      · intro q; simp only [g_cnt]; rw [hw]; exact Or.inl ⟨q, c, h1, rfl⟩
      · intro q; simp only [g_cnt]; rw [hw]; exact Or.inr ⟨q, h1⟩
    · match n, h with
      | 0, h => omega
      | n + 1, h =>
        have hl : g_ins f p w (n + 1) = f n := by unfold g_ins; rw [if_neg (by omega), if_neg (by omega)]; rfl
        simp only [g_cnt] at h
        rcases h with ⟨a, d, h, h1⟩ | ⟨a, h⟩
        · have ih := g_cnt_ins (P := P) (f := f) (w := w) (n := n) (c := d) (p := p) (by omega) h
          subst h1
          constructor
          · intro q; show _ ∨ _; rw [hl]; exact Or.inl ⟨a, d + 1, ih.1 q, rfl⟩
          · intro q; show _ ∨ _; rw [hl]; exact Or.inl ⟨a, d, ih.2 q, rfl⟩
        · have ih := g_cnt_ins (P := P) (f := f) (w := w) (n := n) (c := c) (p := p) (by omega) h
          constructor
          · intro q; show _ ∨ _; rw [hl]; exact Or.inr ⟨a, ih.1 q⟩
          · intro q; show _ ∨ _; rw [hl]; exact Or.inr ⟨a, ih.2 q⟩
/-- the same number, counted over the walls and over the met ones in their order -/
theorem g_cnt_walls {mt P : Nat → Prop} {nr : Nat → Nat → Prop} : ∀ {k n c : Nat} {f : Nat → Nat}, g_ok mt nr k n f → g_cnt (fun w => mt w ∧ P w) (fun j => j) k c → g_cnt P f n c
  | 0, n, c, f, h, h' => by simp only [g_ok] at h; subst h; exact h'
  | k + 1, n, c, f, h, h' => by
    simp only [g_ok] at h
    simp only [g_cnt] at h'
    rcases h with ⟨a, h⟩ | ⟨a, n0, f0, p, h, h1, h2, h3⟩
    · rcases h' with ⟨b, _⟩ | ⟨_, h'⟩
      · exact absurd b.1 a
      · exact g_cnt_walls h h'
    · subst h1
      rcases h' with ⟨b, d, h', e⟩ | ⟨b, h'⟩
      · subst e
        exact g_cnt_congr (fun j hj => (h3 j hj).symm) ((g_cnt_ins h2.1 (g_cnt_walls h h')).1 b.2)
      · exact g_cnt_congr (fun j hj => (h3 j hj).symm) ((g_cnt_ins h2.1 (g_cnt_walls h h')).2 (fun q => b ⟨a, q⟩))
abbrev m_place (x y re : Int32) : Prop := m_btw x (-re) re ∧ m_btw y (-re) re
/-- Math.floorDiv as the JDK has it -/
def m_fdiv (x y : Int64) : Int64 := if (x ^^^ y) < 0 ∧ ¬ (x / y) * y = x then x / y - 1 else x / y
def m_rd (x d : Int64) : Int64 := if 0 < d then m_fdiv x d else -1
def m_fr (w r : Q4) : Int32 := if m_p w r < 0 then 1 else 0
/-- i is one of the numbers below n -/
def m_ix (i : Int32) (n k : Nat) : Prop := k < n ∧ i = nI k
theorem rf_ix {x : Int32} {n : Nat} (hn : n < 2 ^ 31) (h0 : ¬ x < 0) (h1 : ¬ nI n ≤ x) : ∃ k, k < n ∧ x = nI k := by
  rcases pk_ix x hn with h | h | h
  · exact absurd h h0
  · exact absurd h h1
  · exact h
theorem rf_ix0 {x : Int32} {n : Nat} (hn : n < 2 ^ 31) (h : x < 0 ∨ nI n ≤ x) : ∀ k, k < n → ¬ x = nI k := by
  intro k hk e
  subst e
  rcases h with h | h
  · exact nI_pos (by omega) h
  · exact nI_ge hk hn h
theorem rf_btw63 {x : Int32} (h : m_btw x 0 63) : ∃ k, k < 64 ∧ x = nI k := by
  refine rf_ix (n := 64) (by decide) (fun q => ?_) (fun q => ?_)
  · have a := h.1
    rw [Int32.le_iff_toInt_le] at a
    rw [Int32.lt_iff_toInt_lt] at q
    omega
  · have a := h.2
    rw [Int32.le_iff_toInt_le] at a q
    have e1 : (nI 64).toInt = 64 := by decide
    have e2 : (63 : Int32).toInt = 63 := by decide
    omega
theorem rf_btw63n {x : Int32} (h : ¬ m_btw x 0 63) : ∀ k, k < 64 → ¬ x = nI k := by
  intro k hk e
  subst e
  apply h
  constructor
  · exact nI_pos' (by omega)
  · have : nI k ≤ nI 63 := nI_le (by omega) (by decide)
    exact this
/-- the reference's rounding down -/
def k_down (a b : Int64) : Int64 := if ¬ a - a / b * b = 0 ∧ ¬ (a < 0 ↔ b < 0) then a / b - 1 else a / b
