/-! The law: case by case, turn by turn. -/
def law_F (p : Program) (s : State) (m : MethodId) (meth : Method) (c : Code) (b Ln : Nat) (xs : Nat → Int32) (D : va_G) (cW cM c0 c1 c2 c3 c4 c5 : ClassId) : Prop := lw_At p s m meth c b Ln xs ∧ Ln ≤ 2560 ∧ rf_E D (x_t cW cM) s ∧ rf_E D (y_t c0 c1 c2 c3 c4 c5) s
def law_I (s : State) (b : Nat) (D : va_G) (x wa ma y t0 t1 t2 t3 t4 t5 : Nat) (cW cM c0 c1 c2 c3 c4 c5 : ClassId) (t : Nat) (ls : Array Slot) (H : Heap) (locs : List Loc) (k1 k2 : Nat) : Prop :=
  ∃ (wl : Nat → Option Q4) (wc : Int32) (ry : Option Nat) (wf mf : Nat → Option Nat) (L : List Nat) (f : Nat → va_E) (n : Nat) (g : Nat → Nat) (mn ha ex ey dx dy : Int32) (ab be : Int64) (ri : Int32) (o1 o2 : Int64) (f0 f1 f2 f3 f4 f5 : Nat → Int32), lv_has ls 4 [(3, .int (nI (5 * t))), (0, .ref b), (1, .ref x), (2, .ref y)] ∧ va_P D vwCl ((y_7 y t0 t1 t2 t3 t4 t5 c0 c1 c2 c3 c4 c5 mn ha ex ey dx dy ab be ri o1 o2 f0 f1 f2 f3 f4 f5 ++ x_3 x wa ma wc (nI n) ry cW cM wf mf) ++ va_pl L f) H ∧ va_D (fun q : Nat => s.heap.size ≤ q) ((y_7 y t0 t1 t2 t3 t4 t5 c0 c1 c2 c3 c4 c5 mn ha ex ey dx dy ab be ri o1 o2 f0 f1 f2 f3 f4 f5 ++ x_3 x wa ma wc (nI n) ry cW cM wf mf) ++ va_pl L f) ∧ va_S (fun q : Nat => s.heap.size ≤ q) s.heap H locs ∧ rf_LW wl ry wf mf L f n g ha (ex, ey, dx, dy) f0 f1 f2 f3 f4 wc mn ∧ k1 = 10 + 65 * t ∧ k2 = 535 + 324 * t
theorem law_room {t Ln : Nat} (hL : Ln ≤ 2560) (ht : 5 * t + 5 ≤ Ln) : 10 + 65 * t + 65 + 65 ≤ room_1.cells ∧ 535 + 324 * t + 324 + 324 ≤ room_1.slots := by
  have h1 : 10 + 65 * t + 65 + 65 ≤ 600000 := by omega
  have h2 : 535 + 324 * t + 324 + 324 ≤ 7302250 := by omega
  exact ⟨h1, h2⟩
section LawCases
variable {p : Program} {l : Launch} {e : Env} {s : State} {m : MethodId} {below : List Frame} {meth : Method} {c : Code} {b Ln : Nat} {xs : Nat → Int32} {D : va_G} {x wa ma y t0 t1 t2 t3 t4 t5 : Nat} {cW cM c0 c1 c2 c3 c4 c5 : ClassId} {H : Heap} {locs : List Loc} {k1 k2 : Nat} {ls : Array Slot} {t : Nat}
theorem law_ld {rest : List Value} {pc : Nat} (F : law_F p s m meth c b Ln xs D cW cM c0 c1 c2 c3 c4 c5) (hS : va_S (fun q : Nat => s.heap.size ≤ q) s.heap H locs) {j : Nat} {v : Int32} (hv : v = nI j) (hj : j < Ln) (hdg : decode code pc = .ok (.iaload, 1)) (kk : W p l e room_1 s m #[Value.ref b] below meth c H locs k1 k2 (lw_Z below #[Value.ref b] s) (F0 m (pc + 1) ls (.int (xs j) :: rest))) : W p l e room_1 s m #[Value.ref b] below meth c H locs k1 k2 (lw_Z below #[Value.ref b] s) (F0 m pc ls (.int v :: .ref b :: rest)) := by
  obtain ⟨⟨hx, hb, hr, hml, hown, hts, hX, hbl, hlocks, hgv⟩, hL, hEx, hEy⟩ := F
  subst hv
  refine va_sld hx hb hX hbl (Nat.not_le.mpr hbl) hS (vp_in_nI hj (by omega)) hdg ?_
  rw [nI_clamp (by omega)]
  exact kk
theorem law_end (F : law_F p s m meth c b Ln xs D cW cM c0 c1 c2 c3 c4 c5) {wl : Nat → Option Q4} {wc : Int32} {ry : Option Nat} {wf mf : Nat → Option Nat} {L : List Nat} {f : Nat → va_E} {n : Nat} {g : Nat → Nat} {mn ha ex ey dx dy : Int32} {ab be : Int64} {ri : Int32} {o1 o2 : Int64} {f0 f1 f2 f3 f4 f5 : Nat → Int32} (hl : lv_has ls 4 [(3, .int (nI (5 * t))), (0, .ref b), (1, .ref x), (2, .ref y)]) (hP : va_P D vwCl ((y_7 y t0 t1 t2 t3 t4 t5 c0 c1 c2 c3 c4 c5 mn ha ex ey dx dy ab be ri o1 o2 f0 f1 f2 f3 f4 f5 ++ x_3 x wa ma wc (nI n) ry cW cM wf mf) ++ va_pl L f) H) (hD : va_D (fun q : Nat => s.heap.size ≤ q) ((y_7 y t0 t1 t2 t3 t4 t5 c0 c1 c2 c3 c4 c5 mn ha ex ey dx dy ab be ri o1 o2 f0 f1 f2 f3 f4 f5 ++ x_3 x wa ma wc (nI n) ry cW cM wf mf) ++ va_pl L f)) (hS : va_S (fun q : Nat => s.heap.size ≤ q) s.heap H locs) (hW : rf_LW wl ry wf mf L f n g ha (ex, ey, dx, dy) f0 f1 f2 f3 f4 wc mn) (e1 : k1 ≤ 10 + 65 * (t + 1)) (e2 : k2 ≤ 535 + 324 * (t + 1)) (hk : ∀ (ls : Array Slot) (H : Heap) (locs : List Loc) (k1 k2 : Nat), law_I s b D x wa ma y t0 t1 t2 t3 t4 t5 cW cM c0 c1 c2 c3 c4 c5 (t + 1) ls H locs k1 k2 → W p l e room_1 s m #[Value.ref b] below meth c H locs k1 k2 (lw_Z below #[Value.ref b] s) (F0 m 18 ls [])) : W p l e room_1 s m #[Value.ref b] below meth c H locs k1 k2 (lw_Z below #[Value.ref b] s) (F0 m 505 ls []) := by
  obtain ⟨⟨hx, hb, hr, hml, hown, hts, hX, hbl, hlocks, hgv⟩, hL, hEx, hEy⟩ := F
  refine lv_iinc (v := nI (5 * (t + 1))) (lv' := [(3, .int (nI (5 * (t + 1)))), (0, .ref b), (1, .ref x), (2, .ref y)]) hx hb d_Law_law_505 hl (k := 0) rfl (nI_add (5 * t) 5) (by decide) rfl (fun ls hl => ?_)
  refine lv_goto (tgt := 18) hx hb d_Law_law_508 (by decide) ?_
  refine W.widen (k := 10 + 65 * (t + 1)) (n := 535 + 324 * (t + 1)) e1 e2 ?_
  exact hk _ _ _ _ _ ⟨wl, wc, ry, wf, mf, L, f, n, g, mn, ha, ex, ey, dx, dy, ab, be, ri, o1, o2, f0, f1, f2, f3, f4, f5, hl, hP, hD, hS, hW, rfl, rfl⟩
set_option maxHeartbeats 4000000 in
set_option maxRecDepth 100000 in
theorem law_put (F : law_F p s m meth c b Ln xs D cW cM c0 c1 c2 c3 c4 c5) (ht : 5 * t + 5 ≤ Ln) (hI : law_I s b D x wa ma y t0 t1 t2 t3 t4 t5 cW cM c0 c1 c2 c3 c4 c5 t ls H locs k1 k2) (hk : ∀ (ls : Array Slot) (H : Heap) (locs : List Loc) (k1 k2 : Nat), law_I s b D x wa ma y t0 t1 t2 t3 t4 t5 cW cM c0 c1 c2 c3 c4 c5 (t + 1) ls H locs k1 k2 → W p l e room_1 s m #[Value.ref b] below meth c H locs k1 k2 (lw_Z below #[Value.ref b] s) (F0 m 18 ls [])) : W p l e room_1 s m #[Value.ref b] below meth c H locs k1 k2 (lw_Z below #[Value.ref b] s) (F0 m 104 ls []) := by
  obtain ⟨⟨hx, hb, hr, hml, hown, hts0, hX, hbl, hlocks, hgv⟩, hL, hEx, hEy⟩ := id F
  obtain ⟨wl, wc, ry, wf, mf, L, f, n, g, mn, ha, ex, ey, dx, dy, ab, be, ri, o1, o2, f0, f1, f2, f3, f4, f5, hl, hP, hD, hS, hW, rfl, rfl⟩ := hI
  have hR := law_room hL ht
  have hts : ∀ w ∈ BIG, w.before #[Value.ref b] s = true := fun w h => hts0 w (List.mem_filter.mp h).1
  have hA : ∀ q : Nat, s.heap.size ≤ q → (fun q : Nat => s.heap.size ≤ q) q := fun _ h => h
  have S0 : CallFix p m c code 4 s #[Value.ref b] BIG "RayFieldLaw" := ⟨hx, hb, hml, hown, hts⟩
  refine lv_aload_n hx hb d_Law_law_104 rfl (lv_at hl 2 rfl) ?_
  refine lv_aload_n hx hb d_Law_law_105 rfl (lv_at hl 1 rfl) ?_
  refine lv_iload_n hx hb d_Law_law_106 rfl (lv_at hl 0 rfl) ?_
  refine lv_iconst (v := 1) hx hb d_Law_law_107 (by decide) ?_
  refine lv_iadd hx hb d_Law_law_108 ?_
  refine law_ld F hS (nI_add (5 * t) 1) (by omega) d_Law_law_109 ?_
  refine lv_aload_n hx hb d_Law_law_110 rfl (lv_at hl 1 rfl) ?_
  refine lv_iload_n hx hb d_Law_law_111 rfl (lv_at hl 0 rfl) ?_
  refine lv_iconst (v := 2) hx hb d_Law_law_112 (by decide) ?_
  refine lv_iadd hx hb d_Law_law_113 ?_
  refine law_ld F hS (nI_add (5 * t) 2) (by omega) d_Law_law_114 ?_
  refine lv_aload_n hx hb d_Law_law_115 rfl (lv_at hl 1 rfl) ?_
  refine lv_iload_n hx hb d_Law_law_116 rfl (lv_at hl 0 rfl) ?_
  refine lv_iconst (v := 3) hx hb d_Law_law_117 (by decide) ?_
  refine lv_iadd hx hb d_Law_law_118 ?_
  refine law_ld F hS (nI_add (5 * t) 3) (by omega) d_Law_law_119 ?_
  refine lv_aload_n hx hb d_Law_law_120 rfl (lv_at hl 1 rfl) ?_
  refine lv_iload_n hx hb d_Law_law_121 rfl (lv_at hl 0 rfl) ?_
  refine lv_iconst (v := 4) hx hb d_Law_law_122 (by decide) ?_
  refine lv_iadd hx hb d_Law_law_123 ?_
  refine law_ld F hS (nI_add (5 * t) 4) (by omega) d_Law_law_124 ?_
  have hPc := hP.part (cx := x_3 x wa ma wc (nI n) ry cW cM wf mf) [7, 8, 9] rfl
  have hDc := hD.part (cx := x_3 x wa ma wc (nI n) ry cW cM wf mf) [7, 8, 9] (by decide) rfl
  have hFc := va_freeP (cx := x_3 x wa ma wc (nI n) ry cW cM wf mf) hD hS hA [7, 8, 9] rfl
  refine va_calli (rf_runV (As := [.int (xs (5 * t + 1)), .int (xs (5 * t + 2)), .int (xs (5 * t + 3)), .int (xs (5 * t + 4))]) (rest := []) S0 ml_Law_13 (c_RF_put l D x wa ma wc (nI n) ry cW cM wf mf L f wl (ex, ey, dx, dy) n g hW.1 (xs (5 * t + 1)) (xs (5 * t + 2)) (xs (5 * t + 3)) (xs (5 * t + 4)) H.size) hEx (va_recv hEx.2 hPc (ci := 3) (q0 := 0) rfl rfl) ⟨rfl, hPc, hDc.weaken (fun _ _ _ _ => trivial)⟩ ⟨rfl, rfl, (Nat.le_of_ble_eq_true rfl), (Nat.le_of_ble_eq_true rfl)⟩ rfl hl.1 rfl (Nat.le_of_ble_eq_true rfl) d_Law_law_125 ⟨Nat.le_trans (by omega) hR.1, Nat.le_trans (by omega) hR.2⟩) hS (fun q _ h => hFc q h) hFc (fun r1 u U H1 locs hu hvm hw1 hB hz1 hk1 hS => ?_)
  obtain ⟨hP1, hD1⟩ := hB
  rw [hu] at hP1
  obtain ⟨wc', ry', ra', wf', wl', L', f', mf', n', g'⟩ := u
  obtain ⟨hP, hD⟩ := va_joinP (wr := y_7 y t0 t1 t2 t3 t4 t5 c0 c1 c2 c3 c4 c5 mn ha ex ey dx dy ab be ri o1 o2 f0 f1 f2 f3 f4 f5) (rx := x_3 x wa ma wc' (nI n') ry' cW cM wf' mf') hP hD [7, 8, 9] [0, 1, 2, 3, 4, 5, 6] rfl rfl (by decide) (by decide) hk1 hFc hP1 hD1
  clear hk1 hFc hP1 hD1 hz1 hPc hDc
  generalize H1 = H at hP hS ⊢
  try dsimp only at hw1
  refine lv_aload_n hx hb d_Law_law_128 rfl (lv_at hl 3 rfl) ?_
  refine lv_aload_n hx hb d_Law_law_129 rfl (lv_at hl 1 rfl) ?_
  refine lv_iload_n hx hb d_Law_law_130 rfl (lv_at hl 0 rfl) ?_
  refine lv_iconst (v := 1) hx hb d_Law_law_131 (by decide) ?_
  refine lv_iadd hx hb d_Law_law_132 ?_
  refine law_ld F hS (nI_add (5 * t) 1) (by omega) d_Law_law_133 ?_
  refine lv_aload_n hx hb d_Law_law_134 rfl (lv_at hl 1 rfl) ?_
  refine lv_iload_n hx hb d_Law_law_135 rfl (lv_at hl 0 rfl) ?_
  refine lv_iconst (v := 2) hx hb d_Law_law_136 (by decide) ?_
  refine lv_iadd hx hb d_Law_law_137 ?_
  refine law_ld F hS (nI_add (5 * t) 2) (by omega) d_Law_law_138 ?_
  refine lv_aload_n hx hb d_Law_law_139 rfl (lv_at hl 1 rfl) ?_
  refine lv_iload_n hx hb d_Law_law_140 rfl (lv_at hl 0 rfl) ?_
  refine lv_iconst (v := 3) hx hb d_Law_law_141 (by decide) ?_
  refine lv_iadd hx hb d_Law_law_142 ?_
  refine law_ld F hS (nI_add (5 * t) 3) (by omega) d_Law_law_143 ?_
  refine lv_aload_n hx hb d_Law_law_144 rfl (lv_at hl 1 rfl) ?_
  refine lv_iload_n hx hb d_Law_law_145 rfl (lv_at hl 0 rfl) ?_
  refine lv_iconst (v := 4) hx hb d_Law_law_146 (by decide) ?_
  refine lv_iadd hx hb d_Law_law_147 ?_
  refine law_ld F hS (nI_add (5 * t) 4) (by omega) d_Law_law_148 ?_
  have hPy := hP.sub (ws' := y_7 y t0 t1 t2 t3 t4 t5 c0 c1 c2 c3 c4 c5 mn ha ex ey dx dy ab be ri o1 o2 f0 f1 f2 f3 f4 f5) [0, 1, 2, 3, 4, 5, 6] rfl
  have hDy := hD.sub (ws' := y_7 y t0 t1 t2 t3 t4 t5 c0 c1 c2 c3 c4 c5 mn ha ex ey dx dy ab be ri o1 o2 f0 f1 f2 f3 f4 f5) [0, 1, 2, 3, 4, 5, 6] (by decide) rfl
  have hFy := va_free (wc := y_7 y t0 t1 t2 t3 t4 t5 c0 c1 c2 c3 c4 c5 mn ha ex ey dx dy ab be ri o1 o2 f0 f1 f2 f3 f4 f5) hD hS hA [0, 1, 2, 3, 4, 5, 6] rfl
  refine va_calli (rf_runV (As := [.int (xs (5 * t + 1)), .int (xs (5 * t + 2)), .int (xs (5 * t + 3)), .int (xs (5 * t + 4))]) (rest := [.int r1]) S0 ml_Law_17 (c_Md_put l D y t0 t1 t2 t3 t4 t5 c0 c1 c2 c3 c4 c5 mn ha ex ey dx dy ab be ri o1 o2 f0 f1 f2 f3 f4 f5 wl hW.2.1 (xs (5 * t + 1)) (xs (5 * t + 2)) (xs (5 * t + 3)) (xs (5 * t + 4)) H.size) hEy (va_recv hEy.2 hPy (ci := 4) (q0 := 0) rfl rfl) ⟨rfl, hPy, hDy.weaken (fun _ _ _ _ => trivial)⟩ ⟨rfl, rfl, (Nat.le_of_ble_eq_true rfl), (Nat.le_of_ble_eq_true rfl)⟩ rfl hl.1 rfl (Nat.le_of_ble_eq_true rfl) d_Law_law_149 ⟨Nat.le_trans (by omega) hR.1, Nat.le_trans (by omega) hR.2⟩) hS (fun q _ h => hFy q h) hFy (fun r2 u U H2 locs hu hvm hw2 hB hz1 hk1 hS => ?_)
  obtain ⟨hP1, hD1⟩ := hB
  rw [hu] at hP1
  obtain ⟨mn', f0', f1', f2', f3', f4', wl2⟩ := u
  obtain ⟨hP, hD⟩ := va_joinQ (wr := x_3 x wa ma wc' (nI n') ry' cW cM wf' mf') (w1 := y_7 y t0 t1 t2 t3 t4 t5 c0 c1 c2 c3 c4 c5 mn' ha ex ey dx dy ab be ri o1 o2 f0' f1' f2' f3' f4' f5) hP hD [0, 1, 2, 3, 4, 5, 6] [7, 8, 9] rfl rfl (by decide) (by decide) hk1 hFy hP1 hD1
  have hP := hP.part (cx := y_7 y t0 t1 t2 t3 t4 t5 c0 c1 c2 c3 c4 c5 mn' ha ex ey dx dy ab be ri o1 o2 f0' f1' f2' f3' f4' f5 ++ x_3 x wa ma wc' (nI n') ry' cW cM wf' mf') [3, 4, 5, 6, 7, 8, 9, 0, 1, 2] rfl
  have hD := hD.part (cx := y_7 y t0 t1 t2 t3 t4 t5 c0 c1 c2 c3 c4 c5 mn' ha ex ey dx dy ab be ri o1 o2 f0' f1' f2' f3' f4' f5 ++ x_3 x wa ma wc' (nI n') ry' cW cM wf' mf') [3, 4, 5, 6, 7, 8, 9, 0, 1, 2] (by decide) rfl
  try dsimp only at hw2
  have hz := s_put (V := ((xs (5 * t + 1)), (xs (5 * t + 2)), (xs (5 * t + 3)), (xs (5 * t + 4)))) hW hw1 hw2
  refine lv_icmp_eq (tgt := 505) hx hb d_Law_law_152 (by decide) (fun _ => ?_) (fun h => absurd hz.1 h)
  exact law_end F hl hP hD hS hz.2 (by omega) (by omega) hk
set_option maxHeartbeats 4000000 in
set_option maxRecDepth 100000 in
theorem law_take (F : law_F p s m meth c b Ln xs D cW cM c0 c1 c2 c3 c4 c5) (ht : 5 * t + 5 ≤ Ln) (hI : law_I s b D x wa ma y t0 t1 t2 t3 t4 t5 cW cM c0 c1 c2 c3 c4 c5 t ls H locs k1 k2) (hk : ∀ (ls : Array Slot) (H : Heap) (locs : List Loc) (k1 k2 : Nat), law_I s b D x wa ma y t0 t1 t2 t3 t4 t5 cW cM c0 c1 c2 c3 c4 c5 (t + 1) ls H locs k1 k2 → W p l e room_1 s m #[Value.ref b] below meth c H locs k1 k2 (lw_Z below #[Value.ref b] s) (F0 m 18 ls [])) : W p l e room_1 s m #[Value.ref b] below meth c H locs k1 k2 (lw_Z below #[Value.ref b] s) (F0 m 157 ls []) := by
  obtain ⟨⟨hx, hb, hr, hml, hown, hts0, hX, hbl, hlocks, hgv⟩, hL, hEx, hEy⟩ := id F
  obtain ⟨wl, wc, ry, wf, mf, L, f, n, g, mn, ha, ex, ey, dx, dy, ab, be, ri, o1, o2, f0, f1, f2, f3, f4, f5, hl, hP, hD, hS, hW, rfl, rfl⟩ := hI
  have hR := law_room hL ht
  have hts : ∀ w ∈ BIG, w.before #[Value.ref b] s = true := fun w h => hts0 w (List.mem_filter.mp h).1
  have hA : ∀ q : Nat, s.heap.size ≤ q → (fun q : Nat => s.heap.size ≤ q) q := fun _ h => h
  have S0 : CallFix p m c code 4 s #[Value.ref b] BIG "RayFieldLaw" := ⟨hx, hb, hml, hown, hts⟩
  refine lv_aload_n hx hb d_Law_law_157 rfl (lv_at hl 2 rfl) ?_
  refine lv_aload_n hx hb d_Law_law_158 rfl (lv_at hl 1 rfl) ?_
  refine lv_iload_n hx hb d_Law_law_159 rfl (lv_at hl 0 rfl) ?_
  refine lv_iconst (v := 1) hx hb d_Law_law_160 (by decide) ?_
  refine lv_iadd hx hb d_Law_law_161 ?_
  refine law_ld F hS (nI_add (5 * t) 1) (by omega) d_Law_law_162 ?_
  have hPc := hP.part (cx := x_3 x wa ma wc (nI n) ry cW cM wf mf) [7, 8, 9] rfl
  have hDc := hD.part (cx := x_3 x wa ma wc (nI n) ry cW cM wf mf) [7, 8, 9] (by decide) rfl
  have hFc := va_freeP (cx := x_3 x wa ma wc (nI n) ry cW cM wf mf) hD hS hA [7, 8, 9] rfl
  refine va_calli (rf_runV (As := [.int (xs (5 * t + 1))]) (rest := []) S0 ml_Law_18 (c_RF_take l D x wa ma wc (nI n) ry cW cM wf mf L f wl (ex, ey, dx, dy) n g hW.1 (xs (5 * t + 1)) H.size) hEx (va_recv hEx.2 hPc (ci := 3) (q0 := 0) rfl rfl) ⟨rfl, hPc, hDc.weaken (fun _ _ _ _ => trivial)⟩ ⟨rfl, rfl, (Nat.le_of_ble_eq_true rfl), (Nat.le_of_ble_eq_true rfl)⟩ rfl hl.1 rfl (Nat.le_of_ble_eq_true rfl) d_Law_law_163 ⟨Nat.le_trans (by omega) hR.1, Nat.le_trans (by omega) hR.2⟩) hS (fun q _ h => hFc q h) hFc (fun r1 u U H1 locs hu hvm hw1 hB hz1 hk1 hS => ?_)
  obtain ⟨hP1, hD1⟩ := hB
  rw [hu] at hP1
  obtain ⟨wc', ry', ra', wf', wl', L', f', mf', n', g'⟩ := u
  obtain ⟨hP, hD⟩ := va_joinP (wr := y_7 y t0 t1 t2 t3 t4 t5 c0 c1 c2 c3 c4 c5 mn ha ex ey dx dy ab be ri o1 o2 f0 f1 f2 f3 f4 f5) (rx := x_3 x wa ma wc' (nI n') ry' cW cM wf' mf') hP hD [7, 8, 9] [0, 1, 2, 3, 4, 5, 6] rfl rfl (by decide) (by decide) hk1 hFc hP1 hD1
  clear hk1 hFc hP1 hD1 hz1 hPc hDc
  generalize H1 = H at hP hS ⊢
  try dsimp only at hw1
  refine lv_aload_n hx hb d_Law_law_166 rfl (lv_at hl 3 rfl) ?_
  refine lv_aload_n hx hb d_Law_law_167 rfl (lv_at hl 1 rfl) ?_
  refine lv_iload_n hx hb d_Law_law_168 rfl (lv_at hl 0 rfl) ?_
  refine lv_iconst (v := 1) hx hb d_Law_law_169 (by decide) ?_
  refine lv_iadd hx hb d_Law_law_170 ?_
  refine law_ld F hS (nI_add (5 * t) 1) (by omega) d_Law_law_171 ?_
  have hPy := hP.sub (ws' := y_7 y t0 t1 t2 t3 t4 t5 c0 c1 c2 c3 c4 c5 mn ha ex ey dx dy ab be ri o1 o2 f0 f1 f2 f3 f4 f5) [0, 1, 2, 3, 4, 5, 6] rfl
  have hDy := hD.sub (ws' := y_7 y t0 t1 t2 t3 t4 t5 c0 c1 c2 c3 c4 c5 mn ha ex ey dx dy ab be ri o1 o2 f0 f1 f2 f3 f4 f5) [0, 1, 2, 3, 4, 5, 6] (by decide) rfl
  have hFy := va_free (wc := y_7 y t0 t1 t2 t3 t4 t5 c0 c1 c2 c3 c4 c5 mn ha ex ey dx dy ab be ri o1 o2 f0 f1 f2 f3 f4 f5) hD hS hA [0, 1, 2, 3, 4, 5, 6] rfl
  refine va_calli (rf_runV (As := [.int (xs (5 * t + 1))]) (rest := [.int r1]) S0 ml_Law_22 (c_Md_take l D y t0 t1 t2 t3 t4 t5 c0 c1 c2 c3 c4 c5 mn ha ex ey dx dy ab be ri o1 o2 f0 f1 f2 f3 f4 f5 wl hW.2.1 (xs (5 * t + 1)) H.size) hEy (va_recv hEy.2 hPy (ci := 4) (q0 := 0) rfl rfl) ⟨rfl, hPy, hDy.weaken (fun _ _ _ _ => trivial)⟩ ⟨rfl, rfl, (Nat.le_of_ble_eq_true rfl), (Nat.le_of_ble_eq_true rfl)⟩ rfl hl.1 rfl (Nat.le_of_ble_eq_true rfl) d_Law_law_172 ⟨Nat.le_trans (by omega) hR.1, Nat.le_trans (by omega) hR.2⟩) hS (fun q _ h => hFy q h) hFy (fun r2 u U H2 locs hu hvm hw2 hB hz1 hk1 hS => ?_)
  obtain ⟨hP1, hD1⟩ := hB
  rw [hu] at hP1
  obtain ⟨mn', f0', f1', f2', f3', f4', wl2⟩ := u
  obtain ⟨hP, hD⟩ := va_joinQ (wr := x_3 x wa ma wc' (nI n') ry' cW cM wf' mf') (w1 := y_7 y t0 t1 t2 t3 t4 t5 c0 c1 c2 c3 c4 c5 mn' ha ex ey dx dy ab be ri o1 o2 f0' f1' f2' f3' f4' f5) hP hD [0, 1, 2, 3, 4, 5, 6] [7, 8, 9] rfl rfl (by decide) (by decide) hk1 hFy hP1 hD1
  have hP := hP.part (cx := y_7 y t0 t1 t2 t3 t4 t5 c0 c1 c2 c3 c4 c5 mn' ha ex ey dx dy ab be ri o1 o2 f0' f1' f2' f3' f4' f5 ++ x_3 x wa ma wc' (nI n') ry' cW cM wf' mf') [3, 4, 5, 6, 7, 8, 9, 0, 1, 2] rfl
  have hD := hD.part (cx := y_7 y t0 t1 t2 t3 t4 t5 c0 c1 c2 c3 c4 c5 mn' ha ex ey dx dy ab be ri o1 o2 f0' f1' f2' f3' f4' f5 ++ x_3 x wa ma wc' (nI n') ry' cW cM wf' mf') [3, 4, 5, 6, 7, 8, 9, 0, 1, 2] (by decide) rfl
  try dsimp only at hw2
  have hz := s_take hW hw1 hw2
  refine lv_icmp_eq (tgt := 505) hx hb d_Law_law_175 (by decide) (fun _ => ?_) (fun h => absurd hz.1 h)
  exact law_end F hl hP hD hS hz.2 (by omega) (by omega) hk
set_option maxHeartbeats 4000000 in
set_option maxRecDepth 100000 in
theorem law_turn (F : law_F p s m meth c b Ln xs D cW cM c0 c1 c2 c3 c4 c5) (ht : 5 * t + 5 ≤ Ln) (hI : law_I s b D x wa ma y t0 t1 t2 t3 t4 t5 cW cM c0 c1 c2 c3 c4 c5 t ls H locs k1 k2) (hk : ∀ (ls : Array Slot) (H : Heap) (locs : List Loc) (k1 k2 : Nat), law_I s b D x wa ma y t0 t1 t2 t3 t4 t5 cW cM c0 c1 c2 c3 c4 c5 (t + 1) ls H locs k1 k2 → W p l e room_1 s m #[Value.ref b] below meth c H locs k1 k2 (lw_Z below #[Value.ref b] s) (F0 m 18 ls [])) : W p l e room_1 s m #[Value.ref b] below meth c H locs k1 k2 (lw_Z below #[Value.ref b] s) (F0 m 180 ls []) := by
  obtain ⟨⟨hx, hb, hr, hml, hown, hts0, hX, hbl, hlocks, hgv⟩, hL, hEx, hEy⟩ := id F
  obtain ⟨wl, wc, ry, wf, mf, L, f, n, g, mn, ha, ex, ey, dx, dy, ab, be, ri, o1, o2, f0, f1, f2, f3, f4, f5, hl, hP, hD, hS, hW, rfl, rfl⟩ := hI
  have hR := law_room hL ht
  have hts : ∀ w ∈ BIG, w.before #[Value.ref b] s = true := fun w h => hts0 w (List.mem_filter.mp h).1
  have hA : ∀ q : Nat, s.heap.size ≤ q → (fun q : Nat => s.heap.size ≤ q) q := fun _ h => h
  have S0 : CallFix p m c code 4 s #[Value.ref b] BIG "RayFieldLaw" := ⟨hx, hb, hml, hown, hts⟩
  refine lv_aload_n hx hb d_Law_law_180 rfl (lv_at hl 2 rfl) ?_
  refine lv_aload_n hx hb d_Law_law_181 rfl (lv_at hl 1 rfl) ?_
  refine lv_iload_n hx hb d_Law_law_182 rfl (lv_at hl 0 rfl) ?_
  refine lv_iconst (v := 1) hx hb d_Law_law_183 (by decide) ?_
  refine lv_iadd hx hb d_Law_law_184 ?_
  refine law_ld F hS (nI_add (5 * t) 1) (by omega) d_Law_law_185 ?_
  have hPc := hP.part (cx := x_3 x wa ma wc (nI n) ry cW cM wf mf) [7, 8, 9] rfl
  have hDc := hD.part (cx := x_3 x wa ma wc (nI n) ry cW cM wf mf) [7, 8, 9] (by decide) rfl
  have hFc := va_freeP (cx := x_3 x wa ma wc (nI n) ry cW cM wf mf) hD hS hA [7, 8, 9] rfl
  refine va_calli (rf_runV (As := [.int (xs (5 * t + 1))]) (rest := []) S0 ml_Law_23 (c_RF_turn l D x wa ma wc (nI n) ry cW cM wf mf L f wl (ex, ey, dx, dy) n g hW.1 (xs (5 * t + 1)) H.size) hEx (va_recv hEx.2 hPc (ci := 3) (q0 := 0) rfl rfl) ⟨rfl, hPc, hDc.weaken (fun _ _ _ _ => trivial)⟩ ⟨rfl, rfl, (Nat.le_of_ble_eq_true rfl), (Nat.le_of_ble_eq_true rfl)⟩ rfl hl.1 rfl (Nat.le_of_ble_eq_true rfl) d_Law_law_186 ⟨Nat.le_trans (by omega) hR.1, Nat.le_trans (by omega) hR.2⟩) hS (fun q _ h => hFc q h) hFc (fun r1 u U H1 locs hu hvm hw1 hB hz1 hk1 hS => ?_)
  obtain ⟨hP1, hD1⟩ := hB
  rw [hu] at hP1
  obtain ⟨wc', ry', ra', wf', wl', L', f', mf', n', g'⟩ := u
  obtain ⟨hP, hD⟩ := va_joinP (wr := y_7 y t0 t1 t2 t3 t4 t5 c0 c1 c2 c3 c4 c5 mn ha ex ey dx dy ab be ri o1 o2 f0 f1 f2 f3 f4 f5) (rx := x_3 x wa ma wc' (nI n') ry' cW cM wf' mf') hP hD [7, 8, 9] [0, 1, 2, 3, 4, 5, 6] rfl rfl (by decide) (by decide) hk1 hFc hP1 hD1
  clear hk1 hFc hP1 hD1 hz1 hPc hDc
  generalize H1 = H at hP hS ⊢
  try dsimp only at hw1
  refine lv_aload_n hx hb d_Law_law_189 rfl (lv_at hl 3 rfl) ?_
  refine lv_aload_n hx hb d_Law_law_190 rfl (lv_at hl 1 rfl) ?_
  refine lv_iload_n hx hb d_Law_law_191 rfl (lv_at hl 0 rfl) ?_
  refine lv_iconst (v := 1) hx hb d_Law_law_192 (by decide) ?_
  refine lv_iadd hx hb d_Law_law_193 ?_
  refine law_ld F hS (nI_add (5 * t) 1) (by omega) d_Law_law_194 ?_
  have hPy := hP.sub (ws' := y_7 y t0 t1 t2 t3 t4 t5 c0 c1 c2 c3 c4 c5 mn ha ex ey dx dy ab be ri o1 o2 f0 f1 f2 f3 f4 f5) [0, 1, 2, 3, 4, 5, 6] rfl
  have hDy := hD.sub (ws' := y_7 y t0 t1 t2 t3 t4 t5 c0 c1 c2 c3 c4 c5 mn ha ex ey dx dy ab be ri o1 o2 f0 f1 f2 f3 f4 f5) [0, 1, 2, 3, 4, 5, 6] (by decide) rfl
  have hFy := va_free (wc := y_7 y t0 t1 t2 t3 t4 t5 c0 c1 c2 c3 c4 c5 mn ha ex ey dx dy ab be ri o1 o2 f0 f1 f2 f3 f4 f5) hD hS hA [0, 1, 2, 3, 4, 5, 6] rfl
  refine va_calli (rf_runV (As := [.int (xs (5 * t + 1))]) (rest := [.int r1]) S0 ml_Law_26 (c_Md_turn l D y t0 t1 t2 t3 t4 t5 c0 c1 c2 c3 c4 c5 mn ha ex ey dx dy ab be ri o1 o2 f0 f1 f2 f3 f4 f5 wl hW.2.1 (xs (5 * t + 1)) H.size) hEy (va_recv hEy.2 hPy (ci := 4) (q0 := 0) rfl rfl) ⟨rfl, hPy, hDy.weaken (fun _ _ _ _ => trivial)⟩ ⟨rfl, rfl, (Nat.le_of_ble_eq_true rfl), (Nat.le_of_ble_eq_true rfl)⟩ rfl hl.1 rfl (Nat.le_of_ble_eq_true rfl) d_Law_law_195 ⟨Nat.le_trans (by omega) hR.1, Nat.le_trans (by omega) hR.2⟩) hS (fun q _ h => hFy q h) hFy (fun r2 u U H2 locs hu hvm hw2 hB hz1 hk1 hS => ?_)
  obtain ⟨hP1, hD1⟩ := hB
  rw [hu] at hP1
  obtain ⟨mn', f0', f1', f2', f3', f4', wl2⟩ := u
  obtain ⟨hP, hD⟩ := va_joinQ (wr := x_3 x wa ma wc' (nI n') ry' cW cM wf' mf') (w1 := y_7 y t0 t1 t2 t3 t4 t5 c0 c1 c2 c3 c4 c5 mn' ha ex ey dx dy ab be ri o1 o2 f0' f1' f2' f3' f4' f5) hP hD [0, 1, 2, 3, 4, 5, 6] [7, 8, 9] rfl rfl (by decide) (by decide) hk1 hFy hP1 hD1
  have hP := hP.part (cx := y_7 y t0 t1 t2 t3 t4 t5 c0 c1 c2 c3 c4 c5 mn' ha ex ey dx dy ab be ri o1 o2 f0' f1' f2' f3' f4' f5 ++ x_3 x wa ma wc' (nI n') ry' cW cM wf' mf') [3, 4, 5, 6, 7, 8, 9, 0, 1, 2] rfl
  have hD := hD.part (cx := y_7 y t0 t1 t2 t3 t4 t5 c0 c1 c2 c3 c4 c5 mn' ha ex ey dx dy ab be ri o1 o2 f0' f1' f2' f3' f4' f5 ++ x_3 x wa ma wc' (nI n') ry' cW cM wf' mf') [3, 4, 5, 6, 7, 8, 9, 0, 1, 2] (by decide) rfl
  try dsimp only at hw2
  have hz := s_turn hW hw1 hw2
  refine lv_icmp_eq (tgt := 505) hx hb d_Law_law_198 (by decide) (fun _ => ?_) (fun h => absurd hz.1 h)
  exact law_end F hl hP hD hS hz.2 (by omega) (by omega) hk
set_option maxHeartbeats 4000000 in
set_option maxRecDepth 100000 in
theorem law_clear (F : law_F p s m meth c b Ln xs D cW cM c0 c1 c2 c3 c4 c5) (ht : 5 * t + 5 ≤ Ln) (hI : law_I s b D x wa ma y t0 t1 t2 t3 t4 t5 cW cM c0 c1 c2 c3 c4 c5 t ls H locs k1 k2) (hk : ∀ (ls : Array Slot) (H : Heap) (locs : List Loc) (k1 k2 : Nat), law_I s b D x wa ma y t0 t1 t2 t3 t4 t5 cW cM c0 c1 c2 c3 c4 c5 (t + 1) ls H locs k1 k2 → W p l e room_1 s m #[Value.ref b] below meth c H locs k1 k2 (lw_Z below #[Value.ref b] s) (F0 m 18 ls [])) : W p l e room_1 s m #[Value.ref b] below meth c H locs k1 k2 (lw_Z below #[Value.ref b] s) (F0 m 203 ls []) := by
  obtain ⟨⟨hx, hb, hr, hml, hown, hts0, hX, hbl, hlocks, hgv⟩, hL, hEx, hEy⟩ := id F
  obtain ⟨wl, wc, ry, wf, mf, L, f, n, g, mn, ha, ex, ey, dx, dy, ab, be, ri, o1, o2, f0, f1, f2, f3, f4, f5, hl, hP, hD, hS, hW, rfl, rfl⟩ := hI
  have hR := law_room hL ht
  have hts : ∀ w ∈ BIG, w.before #[Value.ref b] s = true := fun w h => hts0 w (List.mem_filter.mp h).1
  have hA : ∀ q : Nat, s.heap.size ≤ q → (fun q : Nat => s.heap.size ≤ q) q := fun _ h => h
  have S0 : CallFix p m c code 4 s #[Value.ref b] BIG "RayFieldLaw" := ⟨hx, hb, hml, hown, hts⟩
  refine lv_aload_n hx hb d_Law_law_203 rfl (lv_at hl 2 rfl) ?_
  have hPc := hP.part (cx := x_3 x wa ma wc (nI n) ry cW cM wf mf) [7, 8, 9] rfl
  have hDc := hD.part (cx := x_3 x wa ma wc (nI n) ry cW cM wf mf) [7, 8, 9] (by decide) rfl
  have hFc := va_freeP (cx := x_3 x wa ma wc (nI n) ry cW cM wf mf) hD hS hA [7, 8, 9] rfl
  refine va_callv (rf_runV (As := []) (rest := []) S0 ml_Law_27 (c_RF_clear l D x wa ma wc (nI n) ry cW cM wf mf L f wl (ex, ey, dx, dy) n g hW.1  H.size) hEx (va_recv hEx.2 hPc (ci := 3) (q0 := 0) rfl rfl) ⟨rfl, hPc, hDc.weaken (fun _ _ _ _ => trivial)⟩ ⟨rfl, rfl, (Nat.le_of_ble_eq_true rfl), (Nat.le_of_ble_eq_true rfl)⟩ rfl hl.1 rfl (Nat.le_of_ble_eq_true rfl) d_Law_law_204 ⟨Nat.le_trans (by omega) hR.1, Nat.le_trans (by omega) hR.2⟩) hS (fun q _ h => hFc q h) hFc (fun u U H1 locs hu hvm hw1 hB hz1 hk1 hS => ?_)
  obtain ⟨hP1, hD1⟩ := hB
  rw [hu] at hP1
  obtain ⟨wc', ry', ra', wf', wl', L', f', mf', n', g'⟩ := u
  obtain ⟨hP, hD⟩ := va_joinP (wr := y_7 y t0 t1 t2 t3 t4 t5 c0 c1 c2 c3 c4 c5 mn ha ex ey dx dy ab be ri o1 o2 f0 f1 f2 f3 f4 f5) (rx := x_3 x wa ma wc' (nI n') ry' cW cM wf' mf') hP hD [7, 8, 9] [0, 1, 2, 3, 4, 5, 6] rfl rfl (by decide) (by decide) hk1 hFc hP1 hD1
  clear hk1 hFc hP1 hD1 hz1 hPc hDc
  generalize H1 = H at hP hS ⊢
  try dsimp only at hw1
  refine lv_aload_n hx hb d_Law_law_207 rfl (lv_at hl 3 rfl) ?_
  have hPy := hP.sub (ws' := y_7 y t0 t1 t2 t3 t4 t5 c0 c1 c2 c3 c4 c5 mn ha ex ey dx dy ab be ri o1 o2 f0 f1 f2 f3 f4 f5) [0, 1, 2, 3, 4, 5, 6] rfl
  have hDy := hD.sub (ws' := y_7 y t0 t1 t2 t3 t4 t5 c0 c1 c2 c3 c4 c5 mn ha ex ey dx dy ab be ri o1 o2 f0 f1 f2 f3 f4 f5) [0, 1, 2, 3, 4, 5, 6] (by decide) rfl
  have hFy := va_free (wc := y_7 y t0 t1 t2 t3 t4 t5 c0 c1 c2 c3 c4 c5 mn ha ex ey dx dy ab be ri o1 o2 f0 f1 f2 f3 f4 f5) hD hS hA [0, 1, 2, 3, 4, 5, 6] rfl
  refine va_callv (rf_runV (As := []) (rest := []) S0 ml_Law_30 (c_Md_clear l D y t0 t1 t2 t3 t4 t5 c0 c1 c2 c3 c4 c5 mn ha ex ey dx dy ab be ri o1 o2 f0 f1 f2 f3 f4 f5 wl hW.2.1  H.size) hEy (va_recv hEy.2 hPy (ci := 4) (q0 := 0) rfl rfl) ⟨rfl, hPy, hDy.weaken (fun _ _ _ _ => trivial)⟩ ⟨rfl, rfl, (Nat.le_of_ble_eq_true rfl), (Nat.le_of_ble_eq_true rfl)⟩ rfl hl.1 rfl (Nat.le_of_ble_eq_true rfl) d_Law_law_208 ⟨Nat.le_trans (by omega) hR.1, Nat.le_trans (by omega) hR.2⟩) hS (fun q _ h => hFy q h) hFy (fun u U H2 locs hu hvm hw2 hB hz1 hk1 hS => ?_)
  obtain ⟨hP1, hD1⟩ := hB
  rw [hu] at hP1
  obtain ⟨mn', f0', f1', f2', f3', f4', wl2⟩ := u
  obtain ⟨hP, hD⟩ := va_joinQ (wr := x_3 x wa ma wc' (nI n') ry' cW cM wf' mf') (w1 := y_7 y t0 t1 t2 t3 t4 t5 c0 c1 c2 c3 c4 c5 mn' ha ex ey dx dy ab be ri o1 o2 f0' f1' f2' f3' f4' f5) hP hD [0, 1, 2, 3, 4, 5, 6] [7, 8, 9] rfl rfl (by decide) (by decide) hk1 hFy hP1 hD1
  have hP := hP.part (cx := y_7 y t0 t1 t2 t3 t4 t5 c0 c1 c2 c3 c4 c5 mn' ha ex ey dx dy ab be ri o1 o2 f0' f1' f2' f3' f4' f5 ++ x_3 x wa ma wc' (nI n') ry' cW cM wf' mf') [3, 4, 5, 6, 7, 8, 9, 0, 1, 2] rfl
  have hD := hD.part (cx := y_7 y t0 t1 t2 t3 t4 t5 c0 c1 c2 c3 c4 c5 mn' ha ex ey dx dy ab be ri o1 o2 f0' f1' f2' f3' f4' f5 ++ x_3 x wa ma wc' (nI n') ry' cW cM wf' mf') [3, 4, 5, 6, 7, 8, 9, 0, 1, 2] (by decide) rfl
  try dsimp only at hw2
  have hz := s_clear hW hw1 hw2
  refine lv_goto (tgt := 505) hx hb d_Law_law_211 (by decide) ?_
  exact law_end F hl hP hD hS hz (by omega) (by omega) hk
set_option maxHeartbeats 4000000 in
set_option maxRecDepth 100000 in
theorem law_ray (F : law_F p s m meth c b Ln xs D cW cM c0 c1 c2 c3 c4 c5) (ht : 5 * t + 5 ≤ Ln) (hI : law_I s b D x wa ma y t0 t1 t2 t3 t4 t5 cW cM c0 c1 c2 c3 c4 c5 t ls H locs k1 k2) (hk : ∀ (ls : Array Slot) (H : Heap) (locs : List Loc) (k1 k2 : Nat), law_I s b D x wa ma y t0 t1 t2 t3 t4 t5 cW cM c0 c1 c2 c3 c4 c5 (t + 1) ls H locs k1 k2 → W p l e room_1 s m #[Value.ref b] below meth c H locs k1 k2 (lw_Z below #[Value.ref b] s) (F0 m 18 ls [])) : W p l e room_1 s m #[Value.ref b] below meth c H locs k1 k2 (lw_Z below #[Value.ref b] s) (F0 m 214 ls []) := by
  obtain ⟨⟨hx, hb, hr, hml, hown, hts0, hX, hbl, hlocks, hgv⟩, hL, hEx, hEy⟩ := id F
  obtain ⟨wl, wc, ry, wf, mf, L, f, n, g, mn, ha, ex, ey, dx, dy, ab, be, ri, o1, o2, f0, f1, f2, f3, f4, f5, hl, hP, hD, hS, hW, rfl, rfl⟩ := hI
  have hR := law_room hL ht
  have hts : ∀ w ∈ BIG, w.before #[Value.ref b] s = true := fun w h => hts0 w (List.mem_filter.mp h).1
  have hA : ∀ q : Nat, s.heap.size ≤ q → (fun q : Nat => s.heap.size ≤ q) q := fun _ h => h
  have S0 : CallFix p m c code 4 s #[Value.ref b] BIG "RayFieldLaw" := ⟨hx, hb, hml, hown, hts⟩
  refine lv_aload_n hx hb d_Law_law_214 rfl (lv_at hl 2 rfl) ?_
  refine lv_aload_n hx hb d_Law_law_215 rfl (lv_at hl 1 rfl) ?_
  refine lv_iload_n hx hb d_Law_law_216 rfl (lv_at hl 0 rfl) ?_
  refine lv_iconst (v := 1) hx hb d_Law_law_217 (by decide) ?_
  refine lv_iadd hx hb d_Law_law_218 ?_
  refine law_ld F hS (nI_add (5 * t) 1) (by omega) d_Law_law_219 ?_
  refine lv_aload_n hx hb d_Law_law_220 rfl (lv_at hl 1 rfl) ?_
  refine lv_iload_n hx hb d_Law_law_221 rfl (lv_at hl 0 rfl) ?_
  refine lv_iconst (v := 2) hx hb d_Law_law_222 (by decide) ?_
  refine lv_iadd hx hb d_Law_law_223 ?_
  refine law_ld F hS (nI_add (5 * t) 2) (by omega) d_Law_law_224 ?_
  refine lv_aload_n hx hb d_Law_law_225 rfl (lv_at hl 1 rfl) ?_
  refine lv_iload_n hx hb d_Law_law_226 rfl (lv_at hl 0 rfl) ?_
  refine lv_iconst (v := 3) hx hb d_Law_law_227 (by decide) ?_
  refine lv_iadd hx hb d_Law_law_228 ?_
  refine law_ld F hS (nI_add (5 * t) 3) (by omega) d_Law_law_229 ?_
  refine lv_aload_n hx hb d_Law_law_230 rfl (lv_at hl 1 rfl) ?_
  refine lv_iload_n hx hb d_Law_law_231 rfl (lv_at hl 0 rfl) ?_
  refine lv_iconst (v := 4) hx hb d_Law_law_232 (by decide) ?_
  refine lv_iadd hx hb d_Law_law_233 ?_
  refine law_ld F hS (nI_add (5 * t) 4) (by omega) d_Law_law_234 ?_
  have hPc := hP.part (cx := x_3 x wa ma wc (nI n) ry cW cM wf mf) [7, 8, 9] rfl
  have hDc := hD.part (cx := x_3 x wa ma wc (nI n) ry cW cM wf mf) [7, 8, 9] (by decide) rfl
  have hFc := va_freeP (cx := x_3 x wa ma wc (nI n) ry cW cM wf mf) hD hS hA [7, 8, 9] rfl
  refine va_calli (rf_runV (As := [.int (xs (5 * t + 1)), .int (xs (5 * t + 2)), .int (xs (5 * t + 3)), .int (xs (5 * t + 4))]) (rest := []) S0 ml_Law_31 (c_RF_ray l D x wa ma wc (nI n) ry cW cM wf mf L f wl (ex, ey, dx, dy) n g hW.1 (xs (5 * t + 1)) (xs (5 * t + 2)) (xs (5 * t + 3)) (xs (5 * t + 4)) H.size) hEx (va_recv hEx.2 hPc (ci := 3) (q0 := 0) rfl rfl) ⟨rfl, hPc, hDc.weaken (fun _ _ _ _ => trivial)⟩ ⟨rfl, rfl, (Nat.le_of_ble_eq_true rfl), (Nat.le_of_ble_eq_true rfl)⟩ rfl hl.1 rfl (Nat.le_of_ble_eq_true rfl) d_Law_law_235 ⟨Nat.le_trans (by omega) hR.1, Nat.le_trans (by omega) hR.2⟩) hS (fun q _ h => hFc q h) hFc (fun r1 u U H1 locs hu hvm hw1 hB hz1 hk1 hS => ?_)
  obtain ⟨hP1, hD1⟩ := hB
  rw [hu] at hP1
  obtain ⟨wc', ry', ra', wf', wl', L', f', mf', n', g'⟩ := u
  obtain ⟨hP, hD⟩ := va_joinP (wr := y_7 y t0 t1 t2 t3 t4 t5 c0 c1 c2 c3 c4 c5 mn ha ex ey dx dy ab be ri o1 o2 f0 f1 f2 f3 f4 f5) (rx := x_3 x wa ma wc' (nI n') ry' cW cM wf' mf') hP hD [7, 8, 9] [0, 1, 2, 3, 4, 5, 6] rfl rfl (by decide) (by decide) hk1 hFc hP1 hD1
  clear hk1 hFc hP1 hD1 hz1 hPc hDc
  generalize H1 = H at hP hS ⊢
  try dsimp only at hw1
  refine lv_aload_n hx hb d_Law_law_238 rfl (lv_at hl 3 rfl) ?_
  refine lv_aload_n hx hb d_Law_law_239 rfl (lv_at hl 1 rfl) ?_
  refine lv_iload_n hx hb d_Law_law_240 rfl (lv_at hl 0 rfl) ?_
  refine lv_iconst (v := 1) hx hb d_Law_law_241 (by decide) ?_
  refine lv_iadd hx hb d_Law_law_242 ?_
  refine law_ld F hS (nI_add (5 * t) 1) (by omega) d_Law_law_243 ?_
  refine lv_aload_n hx hb d_Law_law_244 rfl (lv_at hl 1 rfl) ?_
  refine lv_iload_n hx hb d_Law_law_245 rfl (lv_at hl 0 rfl) ?_
  refine lv_iconst (v := 2) hx hb d_Law_law_246 (by decide) ?_
  refine lv_iadd hx hb d_Law_law_247 ?_
  refine law_ld F hS (nI_add (5 * t) 2) (by omega) d_Law_law_248 ?_
  refine lv_aload_n hx hb d_Law_law_249 rfl (lv_at hl 1 rfl) ?_
  refine lv_iload_n hx hb d_Law_law_250 rfl (lv_at hl 0 rfl) ?_
  refine lv_iconst (v := 3) hx hb d_Law_law_251 (by decide) ?_
  refine lv_iadd hx hb d_Law_law_252 ?_
  refine law_ld F hS (nI_add (5 * t) 3) (by omega) d_Law_law_253 ?_
  refine lv_aload_n hx hb d_Law_law_254 rfl (lv_at hl 1 rfl) ?_
  refine lv_iload_n hx hb d_Law_law_255 rfl (lv_at hl 0 rfl) ?_
  refine lv_iconst (v := 4) hx hb d_Law_law_256 (by decide) ?_
  refine lv_iadd hx hb d_Law_law_257 ?_
  refine law_ld F hS (nI_add (5 * t) 4) (by omega) d_Law_law_258 ?_
  have hPy := hP.sub (ws' := y_7 y t0 t1 t2 t3 t4 t5 c0 c1 c2 c3 c4 c5 mn ha ex ey dx dy ab be ri o1 o2 f0 f1 f2 f3 f4 f5) [0, 1, 2, 3, 4, 5, 6] rfl
  have hDy := hD.sub (ws' := y_7 y t0 t1 t2 t3 t4 t5 c0 c1 c2 c3 c4 c5 mn ha ex ey dx dy ab be ri o1 o2 f0 f1 f2 f3 f4 f5) [0, 1, 2, 3, 4, 5, 6] (by decide) rfl
  have hFy := va_free (wc := y_7 y t0 t1 t2 t3 t4 t5 c0 c1 c2 c3 c4 c5 mn ha ex ey dx dy ab be ri o1 o2 f0 f1 f2 f3 f4 f5) hD hS hA [0, 1, 2, 3, 4, 5, 6] rfl
  refine va_calli (rf_runV (As := [.int (xs (5 * t + 1)), .int (xs (5 * t + 2)), .int (xs (5 * t + 3)), .int (xs (5 * t + 4))]) (rest := [.int r1]) S0 ml_Law_35 (c_Md_ray l D y t0 t1 t2 t3 t4 t5 c0 c1 c2 c3 c4 c5 mn ha ex ey dx dy ab be ri o1 o2 f0 f1 f2 f3 f4 f5  (xs (5 * t + 1)) (xs (5 * t + 2)) (xs (5 * t + 3)) (xs (5 * t + 4)) H.size) hEy (va_recv hEy.2 hPy (ci := 4) (q0 := 0) rfl rfl) ⟨rfl, hPy, hDy.weaken (fun _ _ _ _ => trivial)⟩ ⟨rfl, rfl, (Nat.le_of_ble_eq_true rfl), (Nat.le_of_ble_eq_true rfl)⟩ rfl hl.1 rfl (Nat.le_of_ble_eq_true rfl) d_Law_law_259 ⟨Nat.le_trans (by omega) hR.1, Nat.le_trans (by omega) hR.2⟩) hS (fun q _ h => hFy q h) hFy (fun r2 u U H2 locs hu hvm hw2 hB hz1 hk1 hS => ?_)
  obtain ⟨hP1, hD1⟩ := hB
  rw [hu] at hP1
  obtain ⟨ha', ex', ey', dx', dy'⟩ := u
  obtain ⟨hP, hD⟩ := va_joinQ (wr := x_3 x wa ma wc' (nI n') ry' cW cM wf' mf') (w1 := y_7 y t0 t1 t2 t3 t4 t5 c0 c1 c2 c3 c4 c5 mn ha' ex' ey' dx' dy' ab be ri o1 o2 f0 f1 f2 f3 f4 f5) hP hD [0, 1, 2, 3, 4, 5, 6] [7, 8, 9] rfl rfl (by decide) (by decide) hk1 hFy hP1 hD1
  have hP := hP.part (cx := y_7 y t0 t1 t2 t3 t4 t5 c0 c1 c2 c3 c4 c5 mn ha' ex' ey' dx' dy' ab be ri o1 o2 f0 f1 f2 f3 f4 f5 ++ x_3 x wa ma wc' (nI n') ry' cW cM wf' mf') [3, 4, 5, 6, 7, 8, 9, 0, 1, 2] rfl
  have hD := hD.part (cx := y_7 y t0 t1 t2 t3 t4 t5 c0 c1 c2 c3 c4 c5 mn ha' ex' ey' dx' dy' ab be ri o1 o2 f0 f1 f2 f3 f4 f5 ++ x_3 x wa ma wc' (nI n') ry' cW cM wf' mf') [3, 4, 5, 6, 7, 8, 9, 0, 1, 2] (by decide) rfl
  try dsimp only at hw2
  have hz := s_ray (r' := (ex', ey', dx', dy')) hW hw1 hw2
  refine lv_icmp_eq (tgt := 505) hx hb d_Law_law_262 (by decide) (fun _ => ?_) (fun h => absurd hz.1 h)
  exact law_end F hl hP hD hS hz.2 (by omega) (by omega) hk
set_option maxHeartbeats 4000000 in
set_option maxRecDepth 100000 in
theorem law_met (F : law_F p s m meth c b Ln xs D cW cM c0 c1 c2 c3 c4 c5) (ht : 5 * t + 5 ≤ Ln) (hI : law_I s b D x wa ma y t0 t1 t2 t3 t4 t5 cW cM c0 c1 c2 c3 c4 c5 t ls H locs k1 k2) (hk : ∀ (ls : Array Slot) (H : Heap) (locs : List Loc) (k1 k2 : Nat), law_I s b D x wa ma y t0 t1 t2 t3 t4 t5 cW cM c0 c1 c2 c3 c4 c5 (t + 1) ls H locs k1 k2 → W p l e room_1 s m #[Value.ref b] below meth c H locs k1 k2 (lw_Z below #[Value.ref b] s) (F0 m 18 ls [])) : W p l e room_1 s m #[Value.ref b] below meth c H locs k1 k2 (lw_Z below #[Value.ref b] s) (F0 m 267 ls []) := by
  obtain ⟨⟨hx, hb, hr, hml, hown, hts0, hX, hbl, hlocks, hgv⟩, hL, hEx, hEy⟩ := id F
  obtain ⟨wl, wc, ry, wf, mf, L, f, n, g, mn, ha, ex, ey, dx, dy, ab, be, ri, o1, o2, f0, f1, f2, f3, f4, f5, hl, hP, hD, hS, hW, rfl, rfl⟩ := hI
  have hR := law_room hL ht
  have hts : ∀ w ∈ BIG, w.before #[Value.ref b] s = true := fun w h => hts0 w (List.mem_filter.mp h).1
  have hA : ∀ q : Nat, s.heap.size ≤ q → (fun q : Nat => s.heap.size ≤ q) q := fun _ h => h
  have S0 : CallFix p m c code 4 s #[Value.ref b] BIG "RayFieldLaw" := ⟨hx, hb, hml, hown, hts⟩
  refine lv_aload_n hx hb d_Law_law_267 rfl (lv_at hl 2 rfl) ?_
  have hPc := hP.part (cx := x_3 x wa ma wc (nI n) ry cW cM wf mf) [7, 8, 9] rfl
  refine vp_callSi (va_Run.run (rf_runV (As := []) (rest := []) S0 ml_Law_36 (c_RF_met l D x wa ma wc (nI n) ry cW cM wf mf L f  ) hEx (va_recv hEx.2 hPc (ci := 3) (q0 := 0) rfl rfl) hPc ⟨rfl, rfl, (Nat.le_of_ble_eq_true rfl), (Nat.le_of_ble_eq_true rfl)⟩ rfl hl.1 rfl (Nat.le_of_ble_eq_true rfl) d_Law_law_268 ⟨Nat.le_trans (by omega) hR.1, Nat.le_trans (by omega) hR.2⟩)) (fun r1 hw1 => ?_)
  refine lv_aload_n hx hb d_Law_law_271 rfl (lv_at hl 3 rfl) ?_
  have hPy := hP.sub (ws' := y_7 y t0 t1 t2 t3 t4 t5 c0 c1 c2 c3 c4 c5 mn ha ex ey dx dy ab be ri o1 o2 f0 f1 f2 f3 f4 f5) [0, 1, 2, 3, 4, 5, 6] rfl
  have hDy := hD.sub (ws' := y_7 y t0 t1 t2 t3 t4 t5 c0 c1 c2 c3 c4 c5 mn ha ex ey dx dy ab be ri o1 o2 f0 f1 f2 f3 f4 f5) [0, 1, 2, 3, 4, 5, 6] (by decide) rfl
  have hFy := va_free (wc := y_7 y t0 t1 t2 t3 t4 t5 c0 c1 c2 c3 c4 c5 mn ha ex ey dx dy ab be ri o1 o2 f0 f1 f2 f3 f4 f5) hD hS hA [0, 1, 2, 3, 4, 5, 6] rfl
  refine va_calli (rf_runV (As := []) (rest := [.int r1]) S0 ml_Law_40 (c_Md_met l D y t0 t1 t2 t3 t4 t5 c0 c1 c2 c3 c4 c5 mn ha ex ey dx dy ab be ri o1 o2 f0 f1 f2 f3 f4 f5 wl hW.2.1  H.size) hEy (va_recv hEy.2 hPy (ci := 4) (q0 := 0) rfl rfl) ⟨rfl, hPy, hDy.weaken (fun _ _ _ _ => trivial)⟩ ⟨rfl, rfl, (Nat.le_of_ble_eq_true rfl), (Nat.le_of_ble_eq_true rfl)⟩ rfl hl.1 rfl (Nat.le_of_ble_eq_true rfl) d_Law_law_272 ⟨Nat.le_trans (by omega) hR.1, Nat.le_trans (by omega) hR.2⟩) hS (fun q _ h => hFy q h) hFy (fun r2 u U H2 locs hu hvm hw2 hB hz1 hk1 hS => ?_)
  obtain ⟨hP1, hD1⟩ := hB
  rw [hu] at hP1
  obtain ⟨n2, g2, ab', be', ri', o1', o2', f5'⟩ := u
  obtain ⟨hP, hD⟩ := va_joinQ (wr := x_3 x wa ma wc (nI n) ry cW cM wf mf) (w1 := y_7 y t0 t1 t2 t3 t4 t5 c0 c1 c2 c3 c4 c5 mn ha ex ey dx dy ab' be' ri' o1' o2' f0 f1 f2 f3 f4 f5') hP hD [0, 1, 2, 3, 4, 5, 6] [7, 8, 9] rfl rfl (by decide) (by decide) hk1 hFy hP1 hD1
  have hP := hP.part (cx := y_7 y t0 t1 t2 t3 t4 t5 c0 c1 c2 c3 c4 c5 mn ha ex ey dx dy ab' be' ri' o1' o2' f0 f1 f2 f3 f4 f5' ++ x_3 x wa ma wc (nI n) ry cW cM wf mf) [3, 4, 5, 6, 7, 8, 9, 0, 1, 2] rfl
  have hD := hD.part (cx := y_7 y t0 t1 t2 t3 t4 t5 c0 c1 c2 c3 c4 c5 mn ha ex ey dx dy ab' be' ri' o1' o2' f0 f1 f2 f3 f4 f5' ++ x_3 x wa ma wc (nI n) ry cW cM wf mf) [3, 4, 5, 6, 7, 8, 9, 0, 1, 2] (by decide) rfl
  try dsimp only at hw2
  have hz := x_met hW hw1 hw2
  refine lv_icmp_eq (tgt := 505) hx hb d_Law_law_275 (by decide) (fun _ => ?_) (fun h => absurd hz h)
  exact law_end F hl hP hD hS hW (by omega) (by omega) hk
set_option maxHeartbeats 4000000 in
set_option maxRecDepth 100000 in
theorem law_wall (F : law_F p s m meth c b Ln xs D cW cM c0 c1 c2 c3 c4 c5) (ht : 5 * t + 5 ≤ Ln) (hI : law_I s b D x wa ma y t0 t1 t2 t3 t4 t5 cW cM c0 c1 c2 c3 c4 c5 t ls H locs k1 k2) (hk : ∀ (ls : Array Slot) (H : Heap) (locs : List Loc) (k1 k2 : Nat), law_I s b D x wa ma y t0 t1 t2 t3 t4 t5 cW cM c0 c1 c2 c3 c4 c5 (t + 1) ls H locs k1 k2 → W p l e room_1 s m #[Value.ref b] below meth c H locs k1 k2 (lw_Z below #[Value.ref b] s) (F0 m 18 ls [])) : W p l e room_1 s m #[Value.ref b] below meth c H locs k1 k2 (lw_Z below #[Value.ref b] s) (F0 m 280 ls []) := by
  obtain ⟨⟨hx, hb, hr, hml, hown, hts0, hX, hbl, hlocks, hgv⟩, hL, hEx, hEy⟩ := id F
  obtain ⟨wl, wc, ry, wf, mf, L, f, n, g, mn, ha, ex, ey, dx, dy, ab, be, ri, o1, o2, f0, f1, f2, f3, f4, f5, hl, hP, hD, hS, hW, rfl, rfl⟩ := hI
  have hR := law_room hL ht
  have hts : ∀ w ∈ BIG, w.before #[Value.ref b] s = true := fun w h => hts0 w (List.mem_filter.mp h).1
  have hA : ∀ q : Nat, s.heap.size ≤ q → (fun q : Nat => s.heap.size ≤ q) q := fun _ h => h
  have S0 : CallFix p m c code 4 s #[Value.ref b] BIG "RayFieldLaw" := ⟨hx, hb, hml, hown, hts⟩
  refine lv_aload_n hx hb d_Law_law_280 rfl (lv_at hl 2 rfl) ?_
  refine lv_aload_n hx hb d_Law_law_281 rfl (lv_at hl 1 rfl) ?_
  refine lv_iload_n hx hb d_Law_law_282 rfl (lv_at hl 0 rfl) ?_
  refine lv_iconst (v := 1) hx hb d_Law_law_283 (by decide) ?_
  refine lv_iadd hx hb d_Law_law_284 ?_
  refine law_ld F hS (nI_add (5 * t) 1) (by omega) d_Law_law_285 ?_
  have hPc := hP.part (cx := x_3 x wa ma wc (nI n) ry cW cM wf mf) [7, 8, 9] rfl
  refine vp_callSi (va_Run.run (rf_runV (As := [.int (xs (5 * t + 1))]) (rest := []) S0 ml_Law_41 (c_RF_wall l D x wa ma wc (nI n) ry cW cM wf mf L f wl (ex, ey, dx, dy) n g hW.1.2.2.2.1 rfl hW.1.2.2.2.2.2.1 (xs (5 * t + 1))) hEx (va_recv hEx.2 hPc (ci := 3) (q0 := 0) rfl rfl) hPc ⟨rfl, rfl, (Nat.le_of_ble_eq_true rfl), (Nat.le_of_ble_eq_true rfl)⟩ rfl hl.1 rfl (Nat.le_of_ble_eq_true rfl) d_Law_law_286 ⟨Nat.le_trans (by omega) hR.1, Nat.le_trans (by omega) hR.2⟩)) (fun r1 hw1 => ?_)
  refine lv_aload_n hx hb d_Law_law_289 rfl (lv_at hl 3 rfl) ?_
  refine lv_aload_n hx hb d_Law_law_290 rfl (lv_at hl 1 rfl) ?_
  refine lv_iload_n hx hb d_Law_law_291 rfl (lv_at hl 0 rfl) ?_
  refine lv_iconst (v := 1) hx hb d_Law_law_292 (by decide) ?_
  refine lv_iadd hx hb d_Law_law_293 ?_
  refine law_ld F hS (nI_add (5 * t) 1) (by omega) d_Law_law_294 ?_
  have hPy := hP.sub (ws' := y_7 y t0 t1 t2 t3 t4 t5 c0 c1 c2 c3 c4 c5 mn ha ex ey dx dy ab be ri o1 o2 f0 f1 f2 f3 f4 f5) [0, 1, 2, 3, 4, 5, 6] rfl
  have hDy := hD.sub (ws' := y_7 y t0 t1 t2 t3 t4 t5 c0 c1 c2 c3 c4 c5 mn ha ex ey dx dy ab be ri o1 o2 f0 f1 f2 f3 f4 f5) [0, 1, 2, 3, 4, 5, 6] (by decide) rfl
  have hFy := va_free (wc := y_7 y t0 t1 t2 t3 t4 t5 c0 c1 c2 c3 c4 c5 mn ha ex ey dx dy ab be ri o1 o2 f0 f1 f2 f3 f4 f5) hD hS hA [0, 1, 2, 3, 4, 5, 6] rfl
  refine va_calli (rf_runV (As := [.int (xs (5 * t + 1))]) (rest := [.int r1]) S0 ml_Law_45 (c_Md_wall l D y t0 t1 t2 t3 t4 t5 c0 c1 c2 c3 c4 c5 mn ha ex ey dx dy ab be ri o1 o2 f0 f1 f2 f3 f4 f5 wl hW.2.1 (xs (5 * t + 1)) H.size) hEy (va_recv hEy.2 hPy (ci := 4) (q0 := 0) rfl rfl) ⟨rfl, hPy, hDy.weaken (fun _ _ _ _ => trivial)⟩ ⟨rfl, rfl, (Nat.le_of_ble_eq_true rfl), (Nat.le_of_ble_eq_true rfl)⟩ rfl hl.1 rfl (Nat.le_of_ble_eq_true rfl) d_Law_law_295 ⟨Nat.le_trans (by omega) hR.1, Nat.le_trans (by omega) hR.2⟩) hS (fun q _ h => hFy q h) hFy (fun r2 u U H2 locs hu hvm hw2 hB hz1 hk1 hS => ?_)
  obtain ⟨hP1, hD1⟩ := hB
  rw [hu] at hP1
  obtain ⟨n2, g2, ab', be', ri', o1', o2', f5'⟩ := u
  obtain ⟨hP, hD⟩ := va_joinQ (wr := x_3 x wa ma wc (nI n) ry cW cM wf mf) (w1 := y_7 y t0 t1 t2 t3 t4 t5 c0 c1 c2 c3 c4 c5 mn ha ex ey dx dy ab' be' ri' o1' o2' f0 f1 f2 f3 f4 f5') hP hD [0, 1, 2, 3, 4, 5, 6] [7, 8, 9] rfl rfl (by decide) (by decide) hk1 hFy hP1 hD1
  have hP := hP.part (cx := y_7 y t0 t1 t2 t3 t4 t5 c0 c1 c2 c3 c4 c5 mn ha ex ey dx dy ab' be' ri' o1' o2' f0 f1 f2 f3 f4 f5' ++ x_3 x wa ma wc (nI n) ry cW cM wf mf) [3, 4, 5, 6, 7, 8, 9, 0, 1, 2] rfl
  have hD := hD.part (cx := y_7 y t0 t1 t2 t3 t4 t5 c0 c1 c2 c3 c4 c5 mn ha ex ey dx dy ab' be' ri' o1' o2' f0 f1 f2 f3 f4 f5' ++ x_3 x wa ma wc (nI n) ry cW cM wf mf) [3, 4, 5, 6, 7, 8, 9, 0, 1, 2] (by decide) rfl
  try dsimp only at hw2
  have hz := x_wall hW hw1 hw2
  refine lv_icmp_eq (tgt := 505) hx hb d_Law_law_298 (by decide) (fun _ => ?_) (fun h => absurd hz h)
  exact law_end F hl hP hD hS hW (by omega) (by omega) hk
set_option maxHeartbeats 4000000 in
set_option maxRecDepth 100000 in
theorem law_isRight (F : law_F p s m meth c b Ln xs D cW cM c0 c1 c2 c3 c4 c5) (ht : 5 * t + 5 ≤ Ln) (hI : law_I s b D x wa ma y t0 t1 t2 t3 t4 t5 cW cM c0 c1 c2 c3 c4 c5 t ls H locs k1 k2) (hk : ∀ (ls : Array Slot) (H : Heap) (locs : List Loc) (k1 k2 : Nat), law_I s b D x wa ma y t0 t1 t2 t3 t4 t5 cW cM c0 c1 c2 c3 c4 c5 (t + 1) ls H locs k1 k2 → W p l e room_1 s m #[Value.ref b] below meth c H locs k1 k2 (lw_Z below #[Value.ref b] s) (F0 m 18 ls [])) : W p l e room_1 s m #[Value.ref b] below meth c H locs k1 k2 (lw_Z below #[Value.ref b] s) (F0 m 303 ls []) := by
  obtain ⟨⟨hx, hb, hr, hml, hown, hts0, hX, hbl, hlocks, hgv⟩, hL, hEx, hEy⟩ := id F
  obtain ⟨wl, wc, ry, wf, mf, L, f, n, g, mn, ha, ex, ey, dx, dy, ab, be, ri, o1, o2, f0, f1, f2, f3, f4, f5, hl, hP, hD, hS, hW, rfl, rfl⟩ := hI
  have hR := law_room hL ht
  have hts : ∀ w ∈ BIG, w.before #[Value.ref b] s = true := fun w h => hts0 w (List.mem_filter.mp h).1
  have hA : ∀ q : Nat, s.heap.size ≤ q → (fun q : Nat => s.heap.size ≤ q) q := fun _ h => h
  have S0 : CallFix p m c code 4 s #[Value.ref b] BIG "RayFieldLaw" := ⟨hx, hb, hml, hown, hts⟩
  refine lv_aload_n hx hb d_Law_law_303 rfl (lv_at hl 2 rfl) ?_
  refine lv_aload_n hx hb d_Law_law_304 rfl (lv_at hl 1 rfl) ?_
  refine lv_iload_n hx hb d_Law_law_305 rfl (lv_at hl 0 rfl) ?_
  refine lv_iconst (v := 1) hx hb d_Law_law_306 (by decide) ?_
  refine lv_iadd hx hb d_Law_law_307 ?_
  refine law_ld F hS (nI_add (5 * t) 1) (by omega) d_Law_law_308 ?_
  have hPc := hP.part (cx := x_3 x wa ma wc (nI n) ry cW cM wf mf) [7, 8, 9] rfl
  refine vp_callSi (va_Run.run (rf_runV (As := [.int (xs (5 * t + 1))]) (rest := []) S0 ml_Law_46 (c_RF_isRight l D x wa ma wc (nI n) ry cW cM wf mf L f wl (ex, ey, dx, dy) n g hW.1.2.2.2.1 rfl hW.1.2.2.2.2.2.1 (xs (5 * t + 1))) hEx (va_recv hEx.2 hPc (ci := 3) (q0 := 0) rfl rfl) hPc ⟨rfl, rfl, (Nat.le_of_ble_eq_true rfl), (Nat.le_of_ble_eq_true rfl)⟩ rfl hl.1 rfl (Nat.le_of_ble_eq_true rfl) d_Law_law_309 ⟨Nat.le_trans (by omega) hR.1, Nat.le_trans (by omega) hR.2⟩)) (fun r1 hw1 => ?_)
  refine lv_aload_n hx hb d_Law_law_312 rfl (lv_at hl 3 rfl) ?_
  refine lv_aload_n hx hb d_Law_law_313 rfl (lv_at hl 1 rfl) ?_
  refine lv_iload_n hx hb d_Law_law_314 rfl (lv_at hl 0 rfl) ?_
  refine lv_iconst (v := 1) hx hb d_Law_law_315 (by decide) ?_
  refine lv_iadd hx hb d_Law_law_316 ?_
  refine law_ld F hS (nI_add (5 * t) 1) (by omega) d_Law_law_317 ?_
  have hPy := hP.sub (ws' := y_7 y t0 t1 t2 t3 t4 t5 c0 c1 c2 c3 c4 c5 mn ha ex ey dx dy ab be ri o1 o2 f0 f1 f2 f3 f4 f5) [0, 1, 2, 3, 4, 5, 6] rfl
  have hDy := hD.sub (ws' := y_7 y t0 t1 t2 t3 t4 t5 c0 c1 c2 c3 c4 c5 mn ha ex ey dx dy ab be ri o1 o2 f0 f1 f2 f3 f4 f5) [0, 1, 2, 3, 4, 5, 6] (by decide) rfl
  have hFy := va_free (wc := y_7 y t0 t1 t2 t3 t4 t5 c0 c1 c2 c3 c4 c5 mn ha ex ey dx dy ab be ri o1 o2 f0 f1 f2 f3 f4 f5) hD hS hA [0, 1, 2, 3, 4, 5, 6] rfl
  refine va_calli (rf_runV (As := [.int (xs (5 * t + 1))]) (rest := [.int r1]) S0 ml_Law_49 (c_Md_isRight l D y t0 t1 t2 t3 t4 t5 c0 c1 c2 c3 c4 c5 mn ha ex ey dx dy ab be ri o1 o2 f0 f1 f2 f3 f4 f5 wl hW.2.1 (xs (5 * t + 1)) H.size) hEy (va_recv hEy.2 hPy (ci := 4) (q0 := 0) rfl rfl) ⟨rfl, hPy, hDy.weaken (fun _ _ _ _ => trivial)⟩ ⟨rfl, rfl, (Nat.le_of_ble_eq_true rfl), (Nat.le_of_ble_eq_true rfl)⟩ rfl hl.1 rfl (Nat.le_of_ble_eq_true rfl) d_Law_law_318 ⟨Nat.le_trans (by omega) hR.1, Nat.le_trans (by omega) hR.2⟩) hS (fun q _ h => hFy q h) hFy (fun r2 u U H2 locs hu hvm hw2 hB hz1 hk1 hS => ?_)
  obtain ⟨hP1, hD1⟩ := hB
  rw [hu] at hP1
  obtain ⟨n2, g2, ab', be', ri', o1', o2', f5'⟩ := u
  obtain ⟨hP, hD⟩ := va_joinQ (wr := x_3 x wa ma wc (nI n) ry cW cM wf mf) (w1 := y_7 y t0 t1 t2 t3 t4 t5 c0 c1 c2 c3 c4 c5 mn ha ex ey dx dy ab' be' ri' o1' o2' f0 f1 f2 f3 f4 f5') hP hD [0, 1, 2, 3, 4, 5, 6] [7, 8, 9] rfl rfl (by decide) (by decide) hk1 hFy hP1 hD1
  have hP := hP.part (cx := y_7 y t0 t1 t2 t3 t4 t5 c0 c1 c2 c3 c4 c5 mn ha ex ey dx dy ab' be' ri' o1' o2' f0 f1 f2 f3 f4 f5' ++ x_3 x wa ma wc (nI n) ry cW cM wf mf) [3, 4, 5, 6, 7, 8, 9, 0, 1, 2] rfl
  have hD := hD.part (cx := y_7 y t0 t1 t2 t3 t4 t5 c0 c1 c2 c3 c4 c5 mn ha ex ey dx dy ab' be' ri' o1' o2' f0 f1 f2 f3 f4 f5' ++ x_3 x wa ma wc (nI n) ry cW cM wf mf) [3, 4, 5, 6, 7, 8, 9, 0, 1, 2] (by decide) rfl
  try dsimp only at hw2
  have hz := x_right hW hw1 hw2
  refine lv_icmp_eq (tgt := 505) hx hb d_Law_law_321 (by decide) (fun _ => ?_) (fun h => absurd hz h)
  exact law_end F hl hP hD hS hW (by omega) (by omega) hk
set_option maxHeartbeats 4000000 in
set_option maxRecDepth 100000 in
theorem law_times (F : law_F p s m meth c b Ln xs D cW cM c0 c1 c2 c3 c4 c5) (ht : 5 * t + 5 ≤ Ln) (hI : law_I s b D x wa ma y t0 t1 t2 t3 t4 t5 cW cM c0 c1 c2 c3 c4 c5 t ls H locs k1 k2) (hk : ∀ (ls : Array Slot) (H : Heap) (locs : List Loc) (k1 k2 : Nat), law_I s b D x wa ma y t0 t1 t2 t3 t4 t5 cW cM c0 c1 c2 c3 c4 c5 (t + 1) ls H locs k1 k2 → W p l e room_1 s m #[Value.ref b] below meth c H locs k1 k2 (lw_Z below #[Value.ref b] s) (F0 m 18 ls [])) : W p l e room_1 s m #[Value.ref b] below meth c H locs k1 k2 (lw_Z below #[Value.ref b] s) (F0 m 326 ls []) := by
  obtain ⟨⟨hx, hb, hr, hml, hown, hts0, hX, hbl, hlocks, hgv⟩, hL, hEx, hEy⟩ := id F
  obtain ⟨wl, wc, ry, wf, mf, L, f, n, g, mn, ha, ex, ey, dx, dy, ab, be, ri, o1, o2, f0, f1, f2, f3, f4, f5, hl, hP, hD, hS, hW, rfl, rfl⟩ := hI
  have hR := law_room hL ht
  have hts : ∀ w ∈ BIG, w.before #[Value.ref b] s = true := fun w h => hts0 w (List.mem_filter.mp h).1
  have hA : ∀ q : Nat, s.heap.size ≤ q → (fun q : Nat => s.heap.size ≤ q) q := fun _ h => h
  have S0 : CallFix p m c code 4 s #[Value.ref b] BIG "RayFieldLaw" := ⟨hx, hb, hml, hown, hts⟩
  refine lv_aload_n hx hb d_Law_law_326 rfl (lv_at hl 2 rfl) ?_
  refine lv_aload_n hx hb d_Law_law_327 rfl (lv_at hl 1 rfl) ?_
  refine lv_iload_n hx hb d_Law_law_328 rfl (lv_at hl 0 rfl) ?_
  refine lv_iconst (v := 1) hx hb d_Law_law_329 (by decide) ?_
  refine lv_iadd hx hb d_Law_law_330 ?_
  refine law_ld F hS (nI_add (5 * t) 1) (by omega) d_Law_law_331 ?_
  refine lv_aload_n hx hb d_Law_law_332 rfl (lv_at hl 1 rfl) ?_
  refine lv_iload_n hx hb d_Law_law_333 rfl (lv_at hl 0 rfl) ?_
  refine lv_iconst (v := 2) hx hb d_Law_law_334 (by decide) ?_
  refine lv_iadd hx hb d_Law_law_335 ?_
  refine law_ld F hS (nI_add (5 * t) 2) (by omega) d_Law_law_336 ?_
  have hPc := hP.part (cx := x_3 x wa ma wc (nI n) ry cW cM wf mf) [7, 8, 9] rfl
  refine vp_callSl (va_Run.run (rf_runV (As := [.int (xs (5 * t + 1)), .int (xs (5 * t + 2))]) (rest := []) S0 ml_Law_50 (c_RF_times l D x wa ma wc (nI n) ry cW cM wf mf L f wl (ex, ey, dx, dy) n g hW.1.2.2.2.1 rfl hW.1.2.2.2.2.2.1 (xs (5 * t + 1)) (xs (5 * t + 2))) hEx (va_recv hEx.2 hPc (ci := 3) (q0 := 0) rfl rfl) hPc ⟨rfl, rfl, (Nat.le_of_ble_eq_true rfl), (Nat.le_of_ble_eq_true rfl)⟩ rfl hl.1 rfl (Nat.le_of_ble_eq_true rfl) d_Law_law_337 ⟨Nat.le_trans (by omega) hR.1, Nat.le_trans (by omega) hR.2⟩)) (fun r1 hw1 => ?_)
  refine lv_aload_n hx hb d_Law_law_340 rfl (lv_at hl 3 rfl) ?_
  refine lv_aload_n hx hb d_Law_law_341 rfl (lv_at hl 1 rfl) ?_
  refine lv_iload_n hx hb d_Law_law_342 rfl (lv_at hl 0 rfl) ?_
  refine lv_iconst (v := 1) hx hb d_Law_law_343 (by decide) ?_
  refine lv_iadd hx hb d_Law_law_344 ?_
  refine law_ld F hS (nI_add (5 * t) 1) (by omega) d_Law_law_345 ?_
  refine lv_aload_n hx hb d_Law_law_346 rfl (lv_at hl 1 rfl) ?_
  refine lv_iload_n hx hb d_Law_law_347 rfl (lv_at hl 0 rfl) ?_
  refine lv_iconst (v := 2) hx hb d_Law_law_348 (by decide) ?_
  refine lv_iadd hx hb d_Law_law_349 ?_
  refine law_ld F hS (nI_add (5 * t) 2) (by omega) d_Law_law_350 ?_
  have hPy := hP.sub (ws' := y_7 y t0 t1 t2 t3 t4 t5 c0 c1 c2 c3 c4 c5 mn ha ex ey dx dy ab be ri o1 o2 f0 f1 f2 f3 f4 f5) [0, 1, 2, 3, 4, 5, 6] rfl
  have hDy := hD.sub (ws' := y_7 y t0 t1 t2 t3 t4 t5 c0 c1 c2 c3 c4 c5 mn ha ex ey dx dy ab be ri o1 o2 f0 f1 f2 f3 f4 f5) [0, 1, 2, 3, 4, 5, 6] (by decide) rfl
  have hFy := va_free (wc := y_7 y t0 t1 t2 t3 t4 t5 c0 c1 c2 c3 c4 c5 mn ha ex ey dx dy ab be ri o1 o2 f0 f1 f2 f3 f4 f5) hD hS hA [0, 1, 2, 3, 4, 5, 6] rfl
  refine va_calll (rf_runV (As := [.int (xs (5 * t + 1)), .int (xs (5 * t + 2))]) (rest := [.long r1]) S0 ml_Law_54 (c_Md_times l D y t0 t1 t2 t3 t4 t5 c0 c1 c2 c3 c4 c5 mn ha ex ey dx dy ab be ri o1 o2 f0 f1 f2 f3 f4 f5 wl hW.2.1 (xs (5 * t + 1)) (xs (5 * t + 2)) H.size) hEy (va_recv hEy.2 hPy (ci := 4) (q0 := 0) rfl rfl) ⟨rfl, hPy, hDy.weaken (fun _ _ _ _ => trivial)⟩ ⟨rfl, rfl, (Nat.le_of_ble_eq_true rfl), (Nat.le_of_ble_eq_true rfl)⟩ rfl hl.1 rfl (Nat.le_of_ble_eq_true rfl) d_Law_law_351 ⟨Nat.le_trans (by omega) hR.1, Nat.le_trans (by omega) hR.2⟩) hS (fun q _ h => hFy q h) hFy (fun r2 u U H2 locs hu hvm hw2 hB hz1 hk1 hS => ?_)
  obtain ⟨hP1, hD1⟩ := hB
  rw [hu] at hP1
  obtain ⟨n2, g2, ab', be', ri', o1', o2', f5'⟩ := u
  obtain ⟨hP, hD⟩ := va_joinQ (wr := x_3 x wa ma wc (nI n) ry cW cM wf mf) (w1 := y_7 y t0 t1 t2 t3 t4 t5 c0 c1 c2 c3 c4 c5 mn ha ex ey dx dy ab' be' ri' o1' o2' f0 f1 f2 f3 f4 f5') hP hD [0, 1, 2, 3, 4, 5, 6] [7, 8, 9] rfl rfl (by decide) (by decide) hk1 hFy hP1 hD1
  have hP := hP.part (cx := y_7 y t0 t1 t2 t3 t4 t5 c0 c1 c2 c3 c4 c5 mn ha ex ey dx dy ab' be' ri' o1' o2' f0 f1 f2 f3 f4 f5' ++ x_3 x wa ma wc (nI n) ry cW cM wf mf) [3, 4, 5, 6, 7, 8, 9, 0, 1, 2] rfl
  have hD := hD.part (cx := y_7 y t0 t1 t2 t3 t4 t5 c0 c1 c2 c3 c4 c5 mn ha ex ey dx dy ab' be' ri' o1' o2' f0 f1 f2 f3 f4 f5' ++ x_3 x wa ma wc (nI n) ry cW cM wf mf) [3, 4, 5, 6, 7, 8, 9, 0, 1, 2] (by decide) rfl
  try dsimp only at hw2
  have hz := x_times hW hw1 hw2
  refine rf_lcmp_eq (tgt := 505) hx hb d_Law_law_354 d_Law_law_355 (by decide) (fun _ => ?_) (fun h => absurd hz h)
  exact law_end F hl hP hD hS hW (by omega) (by omega) hk
set_option maxHeartbeats 4000000 in
set_option maxRecDepth 100000 in
theorem law_along (F : law_F p s m meth c b Ln xs D cW cM c0 c1 c2 c3 c4 c5) (ht : 5 * t + 5 ≤ Ln) (hI : law_I s b D x wa ma y t0 t1 t2 t3 t4 t5 cW cM c0 c1 c2 c3 c4 c5 t ls H locs k1 k2) (hk : ∀ (ls : Array Slot) (H : Heap) (locs : List Loc) (k1 k2 : Nat), law_I s b D x wa ma y t0 t1 t2 t3 t4 t5 cW cM c0 c1 c2 c3 c4 c5 (t + 1) ls H locs k1 k2 → W p l e room_1 s m #[Value.ref b] below meth c H locs k1 k2 (lw_Z below #[Value.ref b] s) (F0 m 18 ls [])) : W p l e room_1 s m #[Value.ref b] below meth c H locs k1 k2 (lw_Z below #[Value.ref b] s) (F0 m 360 ls []) := by
  obtain ⟨⟨hx, hb, hr, hml, hown, hts0, hX, hbl, hlocks, hgv⟩, hL, hEx, hEy⟩ := id F
  obtain ⟨wl, wc, ry, wf, mf, L, f, n, g, mn, ha, ex, ey, dx, dy, ab, be, ri, o1, o2, f0, f1, f2, f3, f4, f5, hl, hP, hD, hS, hW, rfl, rfl⟩ := hI
  have hR := law_room hL ht
  have hts : ∀ w ∈ BIG, w.before #[Value.ref b] s = true := fun w h => hts0 w (List.mem_filter.mp h).1
  have hA : ∀ q : Nat, s.heap.size ≤ q → (fun q : Nat => s.heap.size ≤ q) q := fun _ h => h
  have S0 : CallFix p m c code 4 s #[Value.ref b] BIG "RayFieldLaw" := ⟨hx, hb, hml, hown, hts⟩
  refine lv_aload_n hx hb d_Law_law_360 rfl (lv_at hl 2 rfl) ?_
  refine lv_aload_n hx hb d_Law_law_361 rfl (lv_at hl 1 rfl) ?_
  refine lv_iload_n hx hb d_Law_law_362 rfl (lv_at hl 0 rfl) ?_
  refine lv_iconst (v := 1) hx hb d_Law_law_363 (by decide) ?_
  refine lv_iadd hx hb d_Law_law_364 ?_
  refine law_ld F hS (nI_add (5 * t) 1) (by omega) d_Law_law_365 ?_
  have hPc := hP.part (cx := x_3 x wa ma wc (nI n) ry cW cM wf mf) [7, 8, 9] rfl
  refine vp_callSi (va_Run.run (rf_runV (As := [.int (xs (5 * t + 1))]) (rest := []) S0 ml_Law_55 (c_RF_along l D x wa ma wc (nI n) ry cW cM wf mf L f wl (ex, ey, dx, dy) n g hW.1.2.2.2.1 rfl hW.1.2.2.2.2.2.1 (xs (5 * t + 1))) hEx (va_recv hEx.2 hPc (ci := 3) (q0 := 0) rfl rfl) hPc ⟨rfl, rfl, (Nat.le_of_ble_eq_true rfl), (Nat.le_of_ble_eq_true rfl)⟩ rfl hl.1 rfl (Nat.le_of_ble_eq_true rfl) d_Law_law_366 ⟨Nat.le_trans (by omega) hR.1, Nat.le_trans (by omega) hR.2⟩)) (fun r1 hw1 => ?_)
  refine lv_aload_n hx hb d_Law_law_369 rfl (lv_at hl 3 rfl) ?_
  refine lv_aload_n hx hb d_Law_law_370 rfl (lv_at hl 1 rfl) ?_
  refine lv_iload_n hx hb d_Law_law_371 rfl (lv_at hl 0 rfl) ?_
  refine lv_iconst (v := 1) hx hb d_Law_law_372 (by decide) ?_
  refine lv_iadd hx hb d_Law_law_373 ?_
  refine law_ld F hS (nI_add (5 * t) 1) (by omega) d_Law_law_374 ?_
  have hPy := hP.sub (ws' := y_7 y t0 t1 t2 t3 t4 t5 c0 c1 c2 c3 c4 c5 mn ha ex ey dx dy ab be ri o1 o2 f0 f1 f2 f3 f4 f5) [0, 1, 2, 3, 4, 5, 6] rfl
  have hDy := hD.sub (ws' := y_7 y t0 t1 t2 t3 t4 t5 c0 c1 c2 c3 c4 c5 mn ha ex ey dx dy ab be ri o1 o2 f0 f1 f2 f3 f4 f5) [0, 1, 2, 3, 4, 5, 6] (by decide) rfl
  have hFy := va_free (wc := y_7 y t0 t1 t2 t3 t4 t5 c0 c1 c2 c3 c4 c5 mn ha ex ey dx dy ab be ri o1 o2 f0 f1 f2 f3 f4 f5) hD hS hA [0, 1, 2, 3, 4, 5, 6] rfl
  refine va_calli (rf_runV (As := [.int (xs (5 * t + 1))]) (rest := [.int r1]) S0 ml_Law_58 (c_Md_along l D y t0 t1 t2 t3 t4 t5 c0 c1 c2 c3 c4 c5 mn ha ex ey dx dy ab be ri o1 o2 f0 f1 f2 f3 f4 f5 wl hW.2.1 (xs (5 * t + 1)) H.size) hEy (va_recv hEy.2 hPy (ci := 4) (q0 := 0) rfl rfl) ⟨rfl, hPy, hDy.weaken (fun _ _ _ _ => trivial)⟩ ⟨rfl, rfl, (Nat.le_of_ble_eq_true rfl), (Nat.le_of_ble_eq_true rfl)⟩ rfl hl.1 rfl (Nat.le_of_ble_eq_true rfl) d_Law_law_375 ⟨Nat.le_trans (by omega) hR.1, Nat.le_trans (by omega) hR.2⟩) hS (fun q _ h => hFy q h) hFy (fun r2 u U H2 locs hu hvm hw2 hB hz1 hk1 hS => ?_)
  obtain ⟨hP1, hD1⟩ := hB
  rw [hu] at hP1
  obtain ⟨n2, g2, ab', be', ri', o1', o2', f5'⟩ := u
  obtain ⟨hP, hD⟩ := va_joinQ (wr := x_3 x wa ma wc (nI n) ry cW cM wf mf) (w1 := y_7 y t0 t1 t2 t3 t4 t5 c0 c1 c2 c3 c4 c5 mn ha ex ey dx dy ab' be' ri' o1' o2' f0 f1 f2 f3 f4 f5') hP hD [0, 1, 2, 3, 4, 5, 6] [7, 8, 9] rfl rfl (by decide) (by decide) hk1 hFy hP1 hD1
  have hP := hP.part (cx := y_7 y t0 t1 t2 t3 t4 t5 c0 c1 c2 c3 c4 c5 mn ha ex ey dx dy ab' be' ri' o1' o2' f0 f1 f2 f3 f4 f5' ++ x_3 x wa ma wc (nI n) ry cW cM wf mf) [3, 4, 5, 6, 7, 8, 9, 0, 1, 2] rfl
  have hD := hD.part (cx := y_7 y t0 t1 t2 t3 t4 t5 c0 c1 c2 c3 c4 c5 mn ha ex ey dx dy ab' be' ri' o1' o2' f0 f1 f2 f3 f4 f5' ++ x_3 x wa ma wc (nI n) ry cW cM wf mf) [3, 4, 5, 6, 7, 8, 9, 0, 1, 2] (by decide) rfl
  try dsimp only at hw2
  have hz := x_along hW hw1 hw2
  refine lv_icmp_eq (tgt := 505) hx hb d_Law_law_378 (by decide) (fun _ => ?_) (fun h => absurd hz h)
  exact law_end F hl hP hD hS hW (by omega) (by omega) hk
set_option maxHeartbeats 4000000 in
set_option maxRecDepth 100000 in
theorem law_within (F : law_F p s m meth c b Ln xs D cW cM c0 c1 c2 c3 c4 c5) (ht : 5 * t + 5 ≤ Ln) (hI : law_I s b D x wa ma y t0 t1 t2 t3 t4 t5 cW cM c0 c1 c2 c3 c4 c5 t ls H locs k1 k2) (hk : ∀ (ls : Array Slot) (H : Heap) (locs : List Loc) (k1 k2 : Nat), law_I s b D x wa ma y t0 t1 t2 t3 t4 t5 cW cM c0 c1 c2 c3 c4 c5 (t + 1) ls H locs k1 k2 → W p l e room_1 s m #[Value.ref b] below meth c H locs k1 k2 (lw_Z below #[Value.ref b] s) (F0 m 18 ls [])) : W p l e room_1 s m #[Value.ref b] below meth c H locs k1 k2 (lw_Z below #[Value.ref b] s) (F0 m 383 ls []) := by
  obtain ⟨⟨hx, hb, hr, hml, hown, hts0, hX, hbl, hlocks, hgv⟩, hL, hEx, hEy⟩ := id F
  obtain ⟨wl, wc, ry, wf, mf, L, f, n, g, mn, ha, ex, ey, dx, dy, ab, be, ri, o1, o2, f0, f1, f2, f3, f4, f5, hl, hP, hD, hS, hW, rfl, rfl⟩ := hI
  have hR := law_room hL ht
  have hts : ∀ w ∈ BIG, w.before #[Value.ref b] s = true := fun w h => hts0 w (List.mem_filter.mp h).1
  have hA : ∀ q : Nat, s.heap.size ≤ q → (fun q : Nat => s.heap.size ≤ q) q := fun _ h => h
  have S0 : CallFix p m c code 4 s #[Value.ref b] BIG "RayFieldLaw" := ⟨hx, hb, hml, hown, hts⟩
  refine lv_aload_n hx hb d_Law_law_383 rfl (lv_at hl 2 rfl) ?_
  refine lv_aload_n hx hb d_Law_law_384 rfl (lv_at hl 1 rfl) ?_
  refine lv_iload_n hx hb d_Law_law_385 rfl (lv_at hl 0 rfl) ?_
  refine lv_iconst (v := 1) hx hb d_Law_law_386 (by decide) ?_
  refine lv_iadd hx hb d_Law_law_387 ?_
  refine law_ld F hS (nI_add (5 * t) 1) (by omega) d_Law_law_388 ?_
  refine lv_aload_n hx hb d_Law_law_389 rfl (lv_at hl 1 rfl) ?_
  refine lv_iload_n hx hb d_Law_law_390 rfl (lv_at hl 0 rfl) ?_
  refine lv_iconst (v := 2) hx hb d_Law_law_391 (by decide) ?_
  refine lv_iadd hx hb d_Law_law_392 ?_
  refine law_ld F hS (nI_add (5 * t) 2) (by omega) d_Law_law_393 ?_
  have hPc := hP.part (cx := x_3 x wa ma wc (nI n) ry cW cM wf mf) [7, 8, 9] rfl
  refine vp_callSi (va_Run.run (rf_runV (As := [.int (xs (5 * t + 1)), .int (xs (5 * t + 2))]) (rest := []) S0 ml_Law_59 (c_RF_within l D x wa ma wc (nI n) ry cW cM wf mf L f wl (ex, ey, dx, dy) n g hW.1.2.2.2.1 rfl hW.1.2.2.2.2.2.1 (xs (5 * t + 1)) (xs (5 * t + 2))) hEx (va_recv hEx.2 hPc (ci := 3) (q0 := 0) rfl rfl) hPc ⟨rfl, rfl, (Nat.le_of_ble_eq_true rfl), (Nat.le_of_ble_eq_true rfl)⟩ rfl hl.1 rfl (Nat.le_of_ble_eq_true rfl) d_Law_law_394 ⟨Nat.le_trans (by omega) hR.1, Nat.le_trans (by omega) hR.2⟩)) (fun r1 hw1 => ?_)
  refine lv_aload_n hx hb d_Law_law_397 rfl (lv_at hl 3 rfl) ?_
  refine lv_aload_n hx hb d_Law_law_398 rfl (lv_at hl 1 rfl) ?_
  refine lv_iload_n hx hb d_Law_law_399 rfl (lv_at hl 0 rfl) ?_
  refine lv_iconst (v := 1) hx hb d_Law_law_400 (by decide) ?_
  refine lv_iadd hx hb d_Law_law_401 ?_
  refine law_ld F hS (nI_add (5 * t) 1) (by omega) d_Law_law_402 ?_
  refine lv_aload_n hx hb d_Law_law_403 rfl (lv_at hl 1 rfl) ?_
  refine lv_iload_n hx hb d_Law_law_404 rfl (lv_at hl 0 rfl) ?_
  refine lv_iconst (v := 2) hx hb d_Law_law_405 (by decide) ?_
  refine lv_iadd hx hb d_Law_law_406 ?_
  refine law_ld F hS (nI_add (5 * t) 2) (by omega) d_Law_law_407 ?_
  have hPy := hP.sub (ws' := y_7 y t0 t1 t2 t3 t4 t5 c0 c1 c2 c3 c4 c5 mn ha ex ey dx dy ab be ri o1 o2 f0 f1 f2 f3 f4 f5) [0, 1, 2, 3, 4, 5, 6] rfl
  have hDy := hD.sub (ws' := y_7 y t0 t1 t2 t3 t4 t5 c0 c1 c2 c3 c4 c5 mn ha ex ey dx dy ab be ri o1 o2 f0 f1 f2 f3 f4 f5) [0, 1, 2, 3, 4, 5, 6] (by decide) rfl
  have hFy := va_free (wc := y_7 y t0 t1 t2 t3 t4 t5 c0 c1 c2 c3 c4 c5 mn ha ex ey dx dy ab be ri o1 o2 f0 f1 f2 f3 f4 f5) hD hS hA [0, 1, 2, 3, 4, 5, 6] rfl
  refine va_calli (rf_runV (As := [.int (xs (5 * t + 1)), .int (xs (5 * t + 2))]) (rest := [.int r1]) S0 ml_Law_63 (c_Md_within l D y t0 t1 t2 t3 t4 t5 c0 c1 c2 c3 c4 c5 mn ha ex ey dx dy ab be ri o1 o2 f0 f1 f2 f3 f4 f5 wl hW.2.1 (xs (5 * t + 1)) (xs (5 * t + 2)) H.size) hEy (va_recv hEy.2 hPy (ci := 4) (q0 := 0) rfl rfl) ⟨rfl, hPy, hDy.weaken (fun _ _ _ _ => trivial)⟩ ⟨rfl, rfl, (Nat.le_of_ble_eq_true rfl), (Nat.le_of_ble_eq_true rfl)⟩ rfl hl.1 rfl (Nat.le_of_ble_eq_true rfl) d_Law_law_408 ⟨Nat.le_trans (by omega) hR.1, Nat.le_trans (by omega) hR.2⟩) hS (fun q _ h => hFy q h) hFy (fun r2 u U H2 locs hu hvm hw2 hB hz1 hk1 hS => ?_)
  obtain ⟨hP1, hD1⟩ := hB
  rw [hu] at hP1
  obtain ⟨ab', be', ri', o1', o2'⟩ := u
  obtain ⟨hP, hD⟩ := va_joinQ (wr := x_3 x wa ma wc (nI n) ry cW cM wf mf) (w1 := y_7 y t0 t1 t2 t3 t4 t5 c0 c1 c2 c3 c4 c5 mn ha ex ey dx dy ab' be' ri' o1' o2' f0 f1 f2 f3 f4 f5) hP hD [0, 1, 2, 3, 4, 5, 6] [7, 8, 9] rfl rfl (by decide) (by decide) hk1 hFy hP1 hD1
  have hP := hP.part (cx := y_7 y t0 t1 t2 t3 t4 t5 c0 c1 c2 c3 c4 c5 mn ha ex ey dx dy ab' be' ri' o1' o2' f0 f1 f2 f3 f4 f5 ++ x_3 x wa ma wc (nI n) ry cW cM wf mf) [3, 4, 5, 6, 7, 8, 9, 0, 1, 2] rfl
  have hD := hD.part (cx := y_7 y t0 t1 t2 t3 t4 t5 c0 c1 c2 c3 c4 c5 mn ha ex ey dx dy ab' be' ri' o1' o2' f0 f1 f2 f3 f4 f5 ++ x_3 x wa ma wc (nI n) ry cW cM wf mf) [3, 4, 5, 6, 7, 8, 9, 0, 1, 2] (by decide) rfl
  try dsimp only at hw2
  have hz := x_within hW hw1 hw2
  refine lv_icmp_eq (tgt := 505) hx hb d_Law_law_411 (by decide) (fun _ => ?_) (fun h => absurd hz h)
  exact law_end F hl hP hD hS hW (by omega) (by omega) hk
set_option maxHeartbeats 4000000 in
set_option maxRecDepth 100000 in
theorem law_on (F : law_F p s m meth c b Ln xs D cW cM c0 c1 c2 c3 c4 c5) (ht : 5 * t + 5 ≤ Ln) (hI : law_I s b D x wa ma y t0 t1 t2 t3 t4 t5 cW cM c0 c1 c2 c3 c4 c5 t ls H locs k1 k2) (hk : ∀ (ls : Array Slot) (H : Heap) (locs : List Loc) (k1 k2 : Nat), law_I s b D x wa ma y t0 t1 t2 t3 t4 t5 cW cM c0 c1 c2 c3 c4 c5 (t + 1) ls H locs k1 k2 → W p l e room_1 s m #[Value.ref b] below meth c H locs k1 k2 (lw_Z below #[Value.ref b] s) (F0 m 18 ls [])) : W p l e room_1 s m #[Value.ref b] below meth c H locs k1 k2 (lw_Z below #[Value.ref b] s) (F0 m 416 ls []) := by
  obtain ⟨⟨hx, hb, hr, hml, hown, hts0, hX, hbl, hlocks, hgv⟩, hL, hEx, hEy⟩ := id F
  obtain ⟨wl, wc, ry, wf, mf, L, f, n, g, mn, ha, ex, ey, dx, dy, ab, be, ri, o1, o2, f0, f1, f2, f3, f4, f5, hl, hP, hD, hS, hW, rfl, rfl⟩ := hI
  have hR := law_room hL ht
  have hts : ∀ w ∈ BIG, w.before #[Value.ref b] s = true := fun w h => hts0 w (List.mem_filter.mp h).1
  have hA : ∀ q : Nat, s.heap.size ≤ q → (fun q : Nat => s.heap.size ≤ q) q := fun _ h => h
  have S0 : CallFix p m c code 4 s #[Value.ref b] BIG "RayFieldLaw" := ⟨hx, hb, hml, hown, hts⟩
  refine lv_aload_n hx hb d_Law_law_416 rfl (lv_at hl 2 rfl) ?_
  refine lv_aload_n hx hb d_Law_law_417 rfl (lv_at hl 1 rfl) ?_
  refine lv_iload_n hx hb d_Law_law_418 rfl (lv_at hl 0 rfl) ?_
  refine lv_iconst (v := 1) hx hb d_Law_law_419 (by decide) ?_
  refine lv_iadd hx hb d_Law_law_420 ?_
  refine law_ld F hS (nI_add (5 * t) 1) (by omega) d_Law_law_421 ?_
  refine lv_aload_n hx hb d_Law_law_422 rfl (lv_at hl 1 rfl) ?_
  refine lv_iload_n hx hb d_Law_law_423 rfl (lv_at hl 0 rfl) ?_
  refine lv_iconst (v := 2) hx hb d_Law_law_424 (by decide) ?_
  refine lv_iadd hx hb d_Law_law_425 ?_
  refine law_ld F hS (nI_add (5 * t) 2) (by omega) d_Law_law_426 ?_
  have hPc := hP.part (cx := x_3 x wa ma wc (nI n) ry cW cM wf mf) [7, 8, 9] rfl
  refine vp_callSi (va_Run.run (rf_runV (As := [.int (xs (5 * t + 1)), .int (xs (5 * t + 2))]) (rest := []) S0 ml_Law_64 (c_RF_on l D x wa ma wc (nI n) ry cW cM wf mf L f wl hW.1.1 (xs (5 * t + 1)) (xs (5 * t + 2))) hEx (va_recv hEx.2 hPc (ci := 3) (q0 := 0) rfl rfl) hPc ⟨rfl, rfl, (Nat.le_of_ble_eq_true rfl), (Nat.le_of_ble_eq_true rfl)⟩ rfl hl.1 rfl (Nat.le_of_ble_eq_true rfl) d_Law_law_427 ⟨Nat.le_trans (by omega) hR.1, Nat.le_trans (by omega) hR.2⟩)) (fun r1 hw1 => ?_)
  refine lv_aload_n hx hb d_Law_law_430 rfl (lv_at hl 3 rfl) ?_
  refine lv_aload_n hx hb d_Law_law_431 rfl (lv_at hl 1 rfl) ?_
  refine lv_iload_n hx hb d_Law_law_432 rfl (lv_at hl 0 rfl) ?_
  refine lv_iconst (v := 1) hx hb d_Law_law_433 (by decide) ?_
  refine lv_iadd hx hb d_Law_law_434 ?_
  refine law_ld F hS (nI_add (5 * t) 1) (by omega) d_Law_law_435 ?_
  refine lv_aload_n hx hb d_Law_law_436 rfl (lv_at hl 1 rfl) ?_
  refine lv_iload_n hx hb d_Law_law_437 rfl (lv_at hl 0 rfl) ?_
  refine lv_iconst (v := 2) hx hb d_Law_law_438 (by decide) ?_
  refine lv_iadd hx hb d_Law_law_439 ?_
  refine law_ld F hS (nI_add (5 * t) 2) (by omega) d_Law_law_440 ?_
  have hPy := hP.sub (ws' := y_7 y t0 t1 t2 t3 t4 t5 c0 c1 c2 c3 c4 c5 mn ha ex ey dx dy ab be ri o1 o2 f0 f1 f2 f3 f4 f5) [0, 1, 2, 3, 4, 5, 6] rfl
  have hDy := hD.sub (ws' := y_7 y t0 t1 t2 t3 t4 t5 c0 c1 c2 c3 c4 c5 mn ha ex ey dx dy ab be ri o1 o2 f0 f1 f2 f3 f4 f5) [0, 1, 2, 3, 4, 5, 6] (by decide) rfl
  have hFy := va_free (wc := y_7 y t0 t1 t2 t3 t4 t5 c0 c1 c2 c3 c4 c5 mn ha ex ey dx dy ab be ri o1 o2 f0 f1 f2 f3 f4 f5) hD hS hA [0, 1, 2, 3, 4, 5, 6] rfl
  refine va_calli (rf_runV (As := [.int (xs (5 * t + 1)), .int (xs (5 * t + 2))]) (rest := [.int r1]) S0 ml_Law_67 (c_Md_on l D y t0 t1 t2 t3 t4 t5 c0 c1 c2 c3 c4 c5 mn ha ex ey dx dy ab be ri o1 o2 f0 f1 f2 f3 f4 f5 wl hW.2.1 (xs (5 * t + 1)) (xs (5 * t + 2)) H.size) hEy (va_recv hEy.2 hPy (ci := 4) (q0 := 0) rfl rfl) ⟨rfl, hPy, hDy.weaken (fun _ _ _ _ => trivial)⟩ ⟨rfl, rfl, (Nat.le_of_ble_eq_true rfl), (Nat.le_of_ble_eq_true rfl)⟩ rfl hl.1 rfl (Nat.le_of_ble_eq_true rfl) d_Law_law_441 ⟨Nat.le_trans (by omega) hR.1, Nat.le_trans (by omega) hR.2⟩) hS (fun q _ h => hFy q h) hFy (fun r2 u U H2 locs hu hvm hw2 hB hz1 hk1 hS => ?_)
  obtain ⟨hP1, hD1⟩ := hB
  rw [hu] at hP1
  obtain ⟨hP, hD⟩ := va_joinQ (wr := x_3 x wa ma wc (nI n) ry cW cM wf mf) (w1 := y_7 y t0 t1 t2 t3 t4 t5 c0 c1 c2 c3 c4 c5 mn ha ex ey dx dy ab be ri o1 o2 f0 f1 f2 f3 f4 f5) hP hD [0, 1, 2, 3, 4, 5, 6] [7, 8, 9] rfl rfl (by decide) (by decide) hk1 hFy hP1 hD1
  have hP := hP.part (cx := y_7 y t0 t1 t2 t3 t4 t5 c0 c1 c2 c3 c4 c5 mn ha ex ey dx dy ab be ri o1 o2 f0 f1 f2 f3 f4 f5 ++ x_3 x wa ma wc (nI n) ry cW cM wf mf) [3, 4, 5, 6, 7, 8, 9, 0, 1, 2] rfl
  have hD := hD.part (cx := y_7 y t0 t1 t2 t3 t4 t5 c0 c1 c2 c3 c4 c5 mn ha ex ey dx dy ab be ri o1 o2 f0 f1 f2 f3 f4 f5 ++ x_3 x wa ma wc (nI n) ry cW cM wf mf) [3, 4, 5, 6, 7, 8, 9, 0, 1, 2] (by decide) rfl
  try dsimp only at hw2
  have hz := x_on hw1 hw2
  refine lv_icmp_eq (tgt := 505) hx hb d_Law_law_444 (by decide) (fun _ => ?_) (fun h => absurd hz h)
  exact law_end F hl hP hD hS hW (by omega) (by omega) hk
set_option maxHeartbeats 4000000 in
set_option maxRecDepth 100000 in
theorem law_of (F : law_F p s m meth c b Ln xs D cW cM c0 c1 c2 c3 c4 c5) (ht : 5 * t + 5 ≤ Ln) (hI : law_I s b D x wa ma y t0 t1 t2 t3 t4 t5 cW cM c0 c1 c2 c3 c4 c5 t ls H locs k1 k2) (hk : ∀ (ls : Array Slot) (H : Heap) (locs : List Loc) (k1 k2 : Nat), law_I s b D x wa ma y t0 t1 t2 t3 t4 t5 cW cM c0 c1 c2 c3 c4 c5 (t + 1) ls H locs k1 k2 → W p l e room_1 s m #[Value.ref b] below meth c H locs k1 k2 (lw_Z below #[Value.ref b] s) (F0 m 18 ls [])) : W p l e room_1 s m #[Value.ref b] below meth c H locs k1 k2 (lw_Z below #[Value.ref b] s) (F0 m 449 ls []) := by
  obtain ⟨⟨hx, hb, hr, hml, hown, hts0, hX, hbl, hlocks, hgv⟩, hL, hEx, hEy⟩ := id F
  obtain ⟨wl, wc, ry, wf, mf, L, f, n, g, mn, ha, ex, ey, dx, dy, ab, be, ri, o1, o2, f0, f1, f2, f3, f4, f5, hl, hP, hD, hS, hW, rfl, rfl⟩ := hI
  have hR := law_room hL ht
  have hts : ∀ w ∈ BIG, w.before #[Value.ref b] s = true := fun w h => hts0 w (List.mem_filter.mp h).1
  have hA : ∀ q : Nat, s.heap.size ≤ q → (fun q : Nat => s.heap.size ≤ q) q := fun _ h => h
  have S0 : CallFix p m c code 4 s #[Value.ref b] BIG "RayFieldLaw" := ⟨hx, hb, hml, hown, hts⟩
  refine lv_aload_n hx hb d_Law_law_449 rfl (lv_at hl 2 rfl) ?_
  refine lv_aload_n hx hb d_Law_law_450 rfl (lv_at hl 1 rfl) ?_
  refine lv_iload_n hx hb d_Law_law_451 rfl (lv_at hl 0 rfl) ?_
  refine lv_iconst (v := 1) hx hb d_Law_law_452 (by decide) ?_
  refine lv_iadd hx hb d_Law_law_453 ?_
  refine law_ld F hS (nI_add (5 * t) 1) (by omega) d_Law_law_454 ?_
  refine lv_aload_n hx hb d_Law_law_455 rfl (lv_at hl 1 rfl) ?_
  refine lv_iload_n hx hb d_Law_law_456 rfl (lv_at hl 0 rfl) ?_
  refine lv_iconst (v := 2) hx hb d_Law_law_457 (by decide) ?_
  refine lv_iadd hx hb d_Law_law_458 ?_
  refine law_ld F hS (nI_add (5 * t) 2) (by omega) d_Law_law_459 ?_
  have hPc := hP.part (cx := x_3 x wa ma wc (nI n) ry cW cM wf mf) [7, 8, 9] rfl
  refine vp_callSi (va_Run.run (rf_runV (As := [.int (xs (5 * t + 1)), .int (xs (5 * t + 2))]) (rest := []) S0 ml_Law_68 (c_RF_of l D x wa ma wc (nI n) ry cW cM wf mf L f wl hW.1.1 (xs (5 * t + 1)) (xs (5 * t + 2))) hEx (va_recv hEx.2 hPc (ci := 3) (q0 := 0) rfl rfl) hPc ⟨rfl, rfl, (Nat.le_of_ble_eq_true rfl), (Nat.le_of_ble_eq_true rfl)⟩ rfl hl.1 rfl (Nat.le_of_ble_eq_true rfl) d_Law_law_460 ⟨Nat.le_trans (by omega) hR.1, Nat.le_trans (by omega) hR.2⟩)) (fun r1 hw1 => ?_)
  refine lv_aload_n hx hb d_Law_law_463 rfl (lv_at hl 3 rfl) ?_
  refine lv_aload_n hx hb d_Law_law_464 rfl (lv_at hl 1 rfl) ?_
  refine lv_iload_n hx hb d_Law_law_465 rfl (lv_at hl 0 rfl) ?_
  refine lv_iconst (v := 1) hx hb d_Law_law_466 (by decide) ?_
  refine lv_iadd hx hb d_Law_law_467 ?_
  refine law_ld F hS (nI_add (5 * t) 1) (by omega) d_Law_law_468 ?_
  refine lv_aload_n hx hb d_Law_law_469 rfl (lv_at hl 1 rfl) ?_
  refine lv_iload_n hx hb d_Law_law_470 rfl (lv_at hl 0 rfl) ?_
  refine lv_iconst (v := 2) hx hb d_Law_law_471 (by decide) ?_
  refine lv_iadd hx hb d_Law_law_472 ?_
  refine law_ld F hS (nI_add (5 * t) 2) (by omega) d_Law_law_473 ?_
  have hPy := hP.sub (ws' := y_7 y t0 t1 t2 t3 t4 t5 c0 c1 c2 c3 c4 c5 mn ha ex ey dx dy ab be ri o1 o2 f0 f1 f2 f3 f4 f5) [0, 1, 2, 3, 4, 5, 6] rfl
  have hDy := hD.sub (ws' := y_7 y t0 t1 t2 t3 t4 t5 c0 c1 c2 c3 c4 c5 mn ha ex ey dx dy ab be ri o1 o2 f0 f1 f2 f3 f4 f5) [0, 1, 2, 3, 4, 5, 6] (by decide) rfl
  have hFy := va_free (wc := y_7 y t0 t1 t2 t3 t4 t5 c0 c1 c2 c3 c4 c5 mn ha ex ey dx dy ab be ri o1 o2 f0 f1 f2 f3 f4 f5) hD hS hA [0, 1, 2, 3, 4, 5, 6] rfl
  refine va_calli (rf_runV (As := [.int (xs (5 * t + 1)), .int (xs (5 * t + 2))]) (rest := [.int r1]) S0 ml_Law_71 (c_Md_of l D y t0 t1 t2 t3 t4 t5 c0 c1 c2 c3 c4 c5 mn ha ex ey dx dy ab be ri o1 o2 f0 f1 f2 f3 f4 f5 wl hW.2.1 (xs (5 * t + 1)) (xs (5 * t + 2)) H.size) hEy (va_recv hEy.2 hPy (ci := 4) (q0 := 0) rfl rfl) ⟨rfl, hPy, hDy.weaken (fun _ _ _ _ => trivial)⟩ ⟨rfl, rfl, (Nat.le_of_ble_eq_true rfl), (Nat.le_of_ble_eq_true rfl)⟩ rfl hl.1 rfl (Nat.le_of_ble_eq_true rfl) d_Law_law_474 ⟨Nat.le_trans (by omega) hR.1, Nat.le_trans (by omega) hR.2⟩) hS (fun q _ h => hFy q h) hFy (fun r2 u U H2 locs hu hvm hw2 hB hz1 hk1 hS => ?_)
  obtain ⟨hP1, hD1⟩ := hB
  rw [hu] at hP1
  obtain ⟨hP, hD⟩ := va_joinQ (wr := x_3 x wa ma wc (nI n) ry cW cM wf mf) (w1 := y_7 y t0 t1 t2 t3 t4 t5 c0 c1 c2 c3 c4 c5 mn ha ex ey dx dy ab be ri o1 o2 f0 f1 f2 f3 f4 f5) hP hD [0, 1, 2, 3, 4, 5, 6] [7, 8, 9] rfl rfl (by decide) (by decide) hk1 hFy hP1 hD1
  have hP := hP.part (cx := y_7 y t0 t1 t2 t3 t4 t5 c0 c1 c2 c3 c4 c5 mn ha ex ey dx dy ab be ri o1 o2 f0 f1 f2 f3 f4 f5 ++ x_3 x wa ma wc (nI n) ry cW cM wf mf) [3, 4, 5, 6, 7, 8, 9, 0, 1, 2] rfl
  have hD := hD.part (cx := y_7 y t0 t1 t2 t3 t4 t5 c0 c1 c2 c3 c4 c5 mn ha ex ey dx dy ab be ri o1 o2 f0 f1 f2 f3 f4 f5 ++ x_3 x wa ma wc (nI n) ry cW cM wf mf) [3, 4, 5, 6, 7, 8, 9, 0, 1, 2] (by decide) rfl
  try dsimp only at hw2
  have hz := x_of hw1 hw2
  refine lv_icmp_eq (tgt := 505) hx hb d_Law_law_477 (by decide) (fun _ => ?_) (fun h => absurd hz h)
  exact law_end F hl hP hD hS hW (by omega) (by omega) hk
set_option maxHeartbeats 4000000 in
set_option maxRecDepth 100000 in
theorem law_look (F : law_F p s m meth c b Ln xs D cW cM c0 c1 c2 c3 c4 c5) (ht : 5 * t + 5 ≤ Ln) (hI : law_I s b D x wa ma y t0 t1 t2 t3 t4 t5 cW cM c0 c1 c2 c3 c4 c5 t ls H locs k1 k2) (hk : ∀ (ls : Array Slot) (H : Heap) (locs : List Loc) (k1 k2 : Nat), law_I s b D x wa ma y t0 t1 t2 t3 t4 t5 cW cM c0 c1 c2 c3 c4 c5 (t + 1) ls H locs k1 k2 → W p l e room_1 s m #[Value.ref b] below meth c H locs k1 k2 (lw_Z below #[Value.ref b] s) (F0 m 18 ls [])) : W p l e room_1 s m #[Value.ref b] below meth c H locs k1 k2 (lw_Z below #[Value.ref b] s) (F0 m 482 ls []) := by
  obtain ⟨⟨hx, hb, hr, hml, hown, hts0, hX, hbl, hlocks, hgv⟩, hL, hEx, hEy⟩ := id F
  obtain ⟨wl, wc, ry, wf, mf, L, f, n, g, mn, ha, ex, ey, dx, dy, ab, be, ri, o1, o2, f0, f1, f2, f3, f4, f5, hl, hP, hD, hS, hW, rfl, rfl⟩ := hI
  have hR := law_room hL ht
  have hts : ∀ w ∈ BIG, w.before #[Value.ref b] s = true := fun w h => hts0 w (List.mem_filter.mp h).1
  have hA : ∀ q : Nat, s.heap.size ≤ q → (fun q : Nat => s.heap.size ≤ q) q := fun _ h => h
  have S0 : CallFix p m c code 4 s #[Value.ref b] BIG "RayFieldLaw" := ⟨hx, hb, hml, hown, hts⟩
  refine lv_aload_n hx hb d_Law_law_482 rfl (lv_at hl 2 rfl) ?_
  refine lv_aload_n hx hb d_Law_law_483 rfl (lv_at hl 1 rfl) ?_
  refine lv_iload_n hx hb d_Law_law_484 rfl (lv_at hl 0 rfl) ?_
  refine lv_iconst (v := 1) hx hb d_Law_law_485 (by decide) ?_
  refine lv_iadd hx hb d_Law_law_486 ?_
  refine law_ld F hS (nI_add (5 * t) 1) (by omega) d_Law_law_487 ?_
  have hPc := hP.part (cx := x_3 x wa ma wc (nI n) ry cW cM wf mf) [7, 8, 9] rfl
  refine vp_callSi (va_Run.run (rf_runV (As := [.int (xs (5 * t + 1))]) (rest := []) S0 ml_Law_72 (c_RF_look l D x wa ma wc (nI n) ry cW cM wf mf L f  (xs (5 * t + 1))) hEx (va_recv hEx.2 hPc (ci := 3) (q0 := 0) rfl rfl) hPc ⟨rfl, rfl, (Nat.le_of_ble_eq_true rfl), (Nat.le_of_ble_eq_true rfl)⟩ rfl hl.1 rfl (Nat.le_of_ble_eq_true rfl) d_Law_law_488 ⟨Nat.le_trans (by omega) hR.1, Nat.le_trans (by omega) hR.2⟩)) (fun r1 hw1 => ?_)
  refine lv_aload_n hx hb d_Law_law_491 rfl (lv_at hl 3 rfl) ?_
  refine lv_aload_n hx hb d_Law_law_492 rfl (lv_at hl 1 rfl) ?_
  refine lv_iload_n hx hb d_Law_law_493 rfl (lv_at hl 0 rfl) ?_
  refine lv_iconst (v := 1) hx hb d_Law_law_494 (by decide) ?_
  refine lv_iadd hx hb d_Law_law_495 ?_
  refine law_ld F hS (nI_add (5 * t) 1) (by omega) d_Law_law_496 ?_
  have hPy := hP.sub (ws' := y_7 y t0 t1 t2 t3 t4 t5 c0 c1 c2 c3 c4 c5 mn ha ex ey dx dy ab be ri o1 o2 f0 f1 f2 f3 f4 f5) [0, 1, 2, 3, 4, 5, 6] rfl
  have hDy := hD.sub (ws' := y_7 y t0 t1 t2 t3 t4 t5 c0 c1 c2 c3 c4 c5 mn ha ex ey dx dy ab be ri o1 o2 f0 f1 f2 f3 f4 f5) [0, 1, 2, 3, 4, 5, 6] (by decide) rfl
  have hFy := va_free (wc := y_7 y t0 t1 t2 t3 t4 t5 c0 c1 c2 c3 c4 c5 mn ha ex ey dx dy ab be ri o1 o2 f0 f1 f2 f3 f4 f5) hD hS hA [0, 1, 2, 3, 4, 5, 6] rfl
  refine va_calli (rf_runV (As := [.int (xs (5 * t + 1))]) (rest := [.int r1]) S0 ml_Law_75 (c_Md_look l D y t0 t1 t2 t3 t4 t5 c0 c1 c2 c3 c4 c5 mn ha ex ey dx dy ab be ri o1 o2 f0 f1 f2 f3 f4 f5 wl hW.2.1 (xs (5 * t + 1)) H.size) hEy (va_recv hEy.2 hPy (ci := 4) (q0 := 0) rfl rfl) ⟨rfl, hPy, hDy.weaken (fun _ _ _ _ => trivial)⟩ ⟨rfl, rfl, (Nat.le_of_ble_eq_true rfl), (Nat.le_of_ble_eq_true rfl)⟩ rfl hl.1 rfl (Nat.le_of_ble_eq_true rfl) d_Law_law_497 ⟨Nat.le_trans (by omega) hR.1, Nat.le_trans (by omega) hR.2⟩) hS (fun q _ h => hFy q h) hFy (fun r2 u U H2 locs hu hvm hw2 hB hz1 hk1 hS => ?_)
  obtain ⟨hP1, hD1⟩ := hB
  rw [hu] at hP1
  obtain ⟨hP, hD⟩ := va_joinQ (wr := x_3 x wa ma wc (nI n) ry cW cM wf mf) (w1 := y_7 y t0 t1 t2 t3 t4 t5 c0 c1 c2 c3 c4 c5 mn ha ex ey dx dy ab be ri o1 o2 f0 f1 f2 f3 f4 f5) hP hD [0, 1, 2, 3, 4, 5, 6] [7, 8, 9] rfl rfl (by decide) (by decide) hk1 hFy hP1 hD1
  have hP := hP.part (cx := y_7 y t0 t1 t2 t3 t4 t5 c0 c1 c2 c3 c4 c5 mn ha ex ey dx dy ab be ri o1 o2 f0 f1 f2 f3 f4 f5 ++ x_3 x wa ma wc (nI n) ry cW cM wf mf) [3, 4, 5, 6, 7, 8, 9, 0, 1, 2] rfl
  have hD := hD.part (cx := y_7 y t0 t1 t2 t3 t4 t5 c0 c1 c2 c3 c4 c5 mn ha ex ey dx dy ab be ri o1 o2 f0 f1 f2 f3 f4 f5 ++ x_3 x wa ma wc (nI n) ry cW cM wf mf) [3, 4, 5, 6, 7, 8, 9, 0, 1, 2] (by decide) rfl
  try dsimp only at hw2
  have hz := x_look hW hw1 hw2
  refine lv_icmp_eq (tgt := 505) hx hb d_Law_law_500 (by decide) (fun _ => ?_) (fun h => absurd hz h)
  exact law_end F hl hP hD hS hW (by omega) (by omega) hk
set_option maxHeartbeats 4000000 in
set_option maxRecDepth 100000 in
theorem law_loop (F : law_F p s m meth c b Ln xs D cW cM c0 c1 c2 c3 c4 c5) (hI : law_I s b D x wa ma y t0 t1 t2 t3 t4 t5 cW cM c0 c1 c2 c3 c4 c5 0 ls H locs k1 k2) : W p l e room_1 s m #[Value.ref b] below meth c H locs k1 k2 (lw_Z below #[Value.ref b] s) (F0 m 18 ls []) := by
  obtain ⟨⟨hx, hb, hr, hml, hown, hts0, hX, hbl, hlocks, hgv⟩, hL, hEx, hEy⟩ := id F
  have hbA : ¬ (fun q : Nat => s.heap.size ≤ q) b := Nat.not_le.mpr hbl
  refine rf_loop 18 (Ln / 5) (law_I s b D x wa ma y t0 t1 t2 t3 t4 t5 cW cM c0 c1 c2 c3 c4 c5) (fun ls H locs k1 k2 hI => ?_) (fun t ls H locs k1 k2 ht hI hk => ?_) 0 (Nat.zero_le _) hI
  · obtain ⟨wl, wc, ry, wf, mf, L, f, n, g, mn, ha, ex, ey, dx, dy, ab, be, ri, o1, o2, f0, f1, f2, f3, f4, f5, hl, hP, hD, hS, hW, e1, e2⟩ := id hI
    refine lv_iload_n hx hb d_Law_law_18 rfl (lv_at hl 0 rfl) ?_
    refine lv_aload_n hx hb d_Law_law_19 rfl (lv_at hl 1 rfl) ?_
    refine va_slen hx hb hX hbl hbA hS d_Law_law_20 ?_
    refine rf_topi (y := nI Ln) rfl ?_
    refine lv_iconst (v := 5) hx hb d_Law_law_21 (by decide) ?_
    refine lv_isub hx hb d_Law_law_22 ?_
    refine lv_icmp_gt (tgt := 511) hx hb d_Law_law_23 (by decide) (fun _ => ?_) (fun h => absurd ((law_cmp hL (by omega)).mpr (by omega)) h)
    refine lv_iconst (v := 1) hx hb d_Law_law_511 (by decide) ?_
    refine va_forget (fun q hq => hS.2.2 q hq) ?_
    refine W.widen (k := 600000) (n := 7302250) (by omega) (by omega) ?_
    exact lw_ret hx hb hr hlocks d_Law_law_512
  · have ht5 : 5 * t + 5 ≤ Ln := by omega
    obtain ⟨wl, wc, ry, wf, mf, L, f, n, g, mn, ha, ex, ey, dx, dy, ab, be, ri, o1, o2, f0, f1, f2, f3, f4, f5, hl, hP, hD, hS, hW, e1, e2⟩ := id hI
    refine lv_iload_n hx hb d_Law_law_18 rfl (lv_at hl 0 rfl) ?_
    refine lv_aload_n hx hb d_Law_law_19 rfl (lv_at hl 1 rfl) ?_
    refine va_slen hx hb hX hbl hbA hS d_Law_law_20 ?_
    refine rf_topi (y := nI Ln) rfl ?_
    refine lv_iconst (v := 5) hx hb d_Law_law_21 (by decide) ?_
    refine lv_isub hx hb d_Law_law_22 ?_
    refine lv_icmp_gt (tgt := 511) hx hb d_Law_law_23 (by decide) (fun h => absurd ((law_cmp hL (by omega)).mp h) (by omega)) (fun _ => ?_)
    refine lv_aload_n hx hb d_Law_law_26 rfl (lv_at hl 1 rfl) ?_
    refine lv_iload_n hx hb d_Law_law_27 rfl (lv_at hl 0 rfl) ?_
    refine law_ld F hS rfl (by omega) d_Law_law_28 ?_
    refine lv_bipush (v := 15) hx hb d_Law_law_29 (by decide) ?_
    refine lv_iand hx hb d_Law_law_31 ?_
    obtain ⟨j, hj, ej⟩ := pk_andE (xs (5 * t)) (m := 15) 4 (by decide)
    refine rf_topi ej ?_
    rcases (show j = 0 ∨ j = 1 ∨ j = 2 ∨ j = 3 ∨ j = 4 ∨ j = 5 ∨ j = 6 ∨ j = 7 ∨ j = 8 ∨ j = 9 ∨ j = 10 ∨ j = 11 ∨ j = 12 ∨ j = 13 ∨ j = 14 ∨ j = 15 by omega) with rfl | rfl | rfl | rfl | rfl | rfl | rfl | rfl | rfl | rfl | rfl | rfl | rfl | rfl | rfl | rfl
    · exact lv_tableIn (off := 72) (tgt := 104) hx hb d_Law_law_32 (by decide) (by decide) (by decide) (by decide) (law_put F ht5 hI hk)
    · exact lv_tableIn (off := 125) (tgt := 157) hx hb d_Law_law_32 (by decide) (by decide) (by decide) (by decide) (law_take F ht5 hI hk)
    · exact lv_tableIn (off := 148) (tgt := 180) hx hb d_Law_law_32 (by decide) (by decide) (by decide) (by decide) (law_turn F ht5 hI hk)
    · exact lv_tableIn (off := 171) (tgt := 203) hx hb d_Law_law_32 (by decide) (by decide) (by decide) (by decide) (law_clear F ht5 hI hk)
    · exact lv_tableIn (off := 182) (tgt := 214) hx hb d_Law_law_32 (by decide) (by decide) (by decide) (by decide) (law_ray F ht5 hI hk)
    · exact lv_tableIn (off := 235) (tgt := 267) hx hb d_Law_law_32 (by decide) (by decide) (by decide) (by decide) (law_met F ht5 hI hk)
    · exact lv_tableIn (off := 248) (tgt := 280) hx hb d_Law_law_32 (by decide) (by decide) (by decide) (by decide) (law_wall F ht5 hI hk)
    · exact lv_tableIn (off := 271) (tgt := 303) hx hb d_Law_law_32 (by decide) (by decide) (by decide) (by decide) (law_isRight F ht5 hI hk)
    · exact lv_tableIn (off := 294) (tgt := 326) hx hb d_Law_law_32 (by decide) (by decide) (by decide) (by decide) (law_times F ht5 hI hk)
    · exact lv_tableIn (off := 328) (tgt := 360) hx hb d_Law_law_32 (by decide) (by decide) (by decide) (by decide) (law_along F ht5 hI hk)
    · exact lv_tableIn (off := 351) (tgt := 383) hx hb d_Law_law_32 (by decide) (by decide) (by decide) (by decide) (law_within F ht5 hI hk)
    · exact lv_tableIn (off := 384) (tgt := 416) hx hb d_Law_law_32 (by decide) (by decide) (by decide) (by decide) (law_on F ht5 hI hk)
    · exact lv_tableIn (off := 417) (tgt := 449) hx hb d_Law_law_32 (by decide) (by decide) (by decide) (by decide) (law_of F ht5 hI hk)
    · exact lv_tableIn (off := 450) (tgt := 482) hx hb d_Law_law_32 (by decide) (by decide) (by decide) (by decide) (law_look F ht5 hI hk)
    · exact lv_tableOut (tgt := 505) hx hb d_Law_law_32 (by decide) (by decide) (law_end F hl hP hD hS hW (by omega) (by omega) hk)
    · exact lv_tableOut (tgt := 505) hx hb d_Law_law_32 (by decide) (by decide) (law_end F hl hP hD hS hW (by omega) (by omega) hk)
end LawCases
