set_option maxHeartbeats 4000000 in
set_option maxRecDepth 100000 in
theorem c_Md_met (l : Launch) (D : va_G) (y t0 t1 t2 t3 t4 t5 : Nat) (c0 c1 c2 c3 c4 c5 : ClassId) (ma ha ex ey dx dy : Int32) (ab be : Int64) (ri : Int32) (o1 o2 : Int64) (f0 f1 f2 f3 f4 f5 : Nat → Int32) (wl : Nat → Option Q4) (hY : rf_YF wl f0 f1 f2 f3 f4) (sz : Nat) : Met l y_Md_met (.code y_Md_met b_Md_met 1 (some (.int)) :: BIG) { frames := 4, cells := 0, slots := 0, locals := 160 } (rf_Pc D (y_t c0 c1 c2 c3 c4 c5) [.ref y] (fun h => h.size = sz ∧ va_P D vwCl (y_7 y t0 t1 t2 t3 t4 t5 c0 c1 c2 c3 c4 c5 ma ha ex ey dx dy ab be ri o1 o2 f0 f1 f2 f3 f4 f5) h ∧ va_D (fun _ => True) (y_7 y t0 t1 t2 t3 t4 t5 c0 c1 c2 c3 c4 c5 ma ha ex ey dx dy ab be ri o1 o2 f0 f1 f2 f3 f4 f5))) (va_Qi (S := Nat × (Nat → Nat) × Int64 × Int64 × Int32 × Int64 × Int64 × (Nat → Int32)) (fun r u => ((ha = 0 ∧ r = -1) ∨ (¬ ha = 0 ∧ r = nI u.1)) ∧ rf_PG wl ha (ex, ey, dx, dy) u.1 u.2.1 u.2.2.2.2.2.2.2) (fun u t => va_P D vwCl (y_7 y t0 t1 t2 t3 t4 t5 c0 c1 c2 c3 c4 c5 ma ha ex ey dx dy u.2.2.1 u.2.2.2.1 u.2.2.2.2.1 u.2.2.2.2.2.1 u.2.2.2.2.2.2.1 f0 f1 f2 f3 f4 u.2.2.2.2.2.2.2) t.heap ∧ va_D (va_A (y_7 y t0 t1 t2 t3 t4 t5 c0 c1 c2 c3 c4 c5 ma ha ex ey dx dy ab be ri o1 o2 f0 f1 f2 f3 f4 f5) sz) (y_7 y t0 t1 t2 t3 t4 t5 c0 c1 c2 c3 c4 c5 ma ha ex ey dx dy u.2.2.1 u.2.2.2.1 u.2.2.2.2.1 u.2.2.2.2.2.1 u.2.2.2.2.2.2.1 f0 f1 f2 f3 f4 u.2.2.2.2.2.2.2)) (va_A (y_7 y t0 t1 t2 t3 t4 t5 c0 c1 c2 c3 c4 c5 ma ha ex ey dx dy ab be ri o1 o2 f0 f1 f2 f3 f4 f5) sz)) 0 0 (va_A (y_7 y t0 t1 t2 t3 t4 t5 c0 c1 c2 c3 c4 c5 ma ha ex ey dx dy ab be ri o1 o2 f0 f1 f2 f3 f4 f5) sz) := by
  refine Met.ofW (cc := b_Md_met) (maxL := 1) (ret := (some (.int))) (by decide) rfl ?_
  intro p e s m args below meth c s₁ B hml hv
  obtain ⟨rfl, hE, hP⟩ := hv
  have hx := B.exec
  have hb := B.bytes
  have hr := B.returns
  have hts : ∀ w ∈ BIG, w.before [.ref y].toArray s = true := fun w h => atoms_spec (ws := .code y_Md_met b_Md_met 1 (some (.int)) :: BIG) B.pre w (List.mem_cons_of_mem _ h)
  have hown : s.vm.findClass "RayFieldModel" = some m.cls := findClass_of_methodNamed B.named
  have hlocks := B.notSynchronized
  have hK := hE.2
  have S0 : CallFix p m c b_Md_met 1 s [.ref y].toArray BIG "RayFieldModel" := ⟨hx, hb, hml, hown, hts⟩
  have hl := lv_entry ([.ref y]) (n := 1) (Nat.le_of_ble_eq_true rfl)
  rw [lg_entry_eq]
  generalize (lg_sl ([.ref y]) ++ List.replicate (1 - (lg_sl ([.ref y])).length) Slot.unset).toArray = ls at hl ⊢
  have hl : lv_has ls 1 [(0, .ref y)] := hl
  obtain ⟨hsz, hP, hD0⟩ := hP
  subst hsz
  have hD := hD0.self (sz := s.heap.size)
  generalize hAe : va_A (y_7 y t0 t1 t2 t3 t4 t5 c0 c1 c2 c3 c4 c5 ma ha ex ey dx dy ab be ri o1 o2 f0 f1 f2 f3 f4 f5) s.heap.size = A at hD ⊢
  have hA : ∀ q : Nat, s.heap.size ≤ q → A q := fun q h => by rw [← hAe]; exact Or.inr h
  obtain ⟨H, hH⟩ : ∃ H : Heap, H = s.heap := ⟨_, rfl⟩
  refine rf_heap hH ?_
  have hS : va_S A s.heap H [] := by rw [hH]; exact va_S.rf
  have hP : va_P D vwCl (y_7 y t0 t1 t2 t3 t4 t5 c0 c1 c2 c3 c4 c5 ma ha ex ey dx dy ab be ri o1 o2 f0 f1 f2 f3 f4 f5) H := by rw [hH]; exact hP
  refine lv_aload_n hx hb d_Md_met_0 rfl (lv_at hl 0 rfl) ?_
  refine lv_iconst (v := 0) hx hb d_Md_met_1 (by decide) ?_
  refine va_put (D := D) (ci := 4) (v := .int 0) (ty := .int) (C := "RayFieldModel") (T := F_Md) (N := 18) hx hb hts in_Md t_Md tok_Md nn_Md hown hK hP hD hS 0 rfl rfl 0 (by decide) (hts _ w_280) (fun _ h9 => h9) rfl (by decide +kernel) rfl rfl (Nat.le_of_ble_eq_true rfl) d_Md_met_2 (fun H locs hP hD hS => ?_)
  have hP : va_P D vwCl (y_7 y t0 t1 t2 t3 t4 t5 c0 c1 c2 c3 c4 c5 ma ha ex ey dx dy ab be ri o1 o2 f0 f1 f2 f3 f4 f5) H := hP
  have hD : va_D A (y_7 y t0 t1 t2 t3 t4 t5 c0 c1 c2 c3 c4 c5 ma ha ex ey dx dy ab be ri o1 o2 f0 f1 f2 f3 f4 f5) := hD
  refine lv_aload_n hx hb d_Md_met_5 rfl (lv_at hl 0 rfl) ?_
  refine va_get (D := D) (ci := 4) (v := .int ha) (C := "RayFieldModel") (T := F_Md) (N := 18) hx hb hts in_Md hown hK hP 0 rfl rfl 7 (by decide) (hts _ w_287) (fun _ h9 => h9) rfl d_Md_met_6 ?_
  refine lv_if_eq (tgt := 19) hx hb d_Md_met_9 (by decide) (fun c_1 => ?_) (fun c_1 => ?_)
  · refine lv_iconst (v := -1) hx hb d_Md_met_19 (by decide) ?_
    exact W.iret (v := (-1)) hx hb hr (fun t ht hW => ⟨⟨_, (0, fun _ => 0, ab, be, ri, o1, o2, f5), rfl, ⟨Or.inl ⟨c_1, rfl⟩, Nat.zero_le _, fun _ => rfl, fun h => absurd c_1 h, fun j hj => absurd hj (Nat.not_lt_zero _)⟩, by rw [ht]; exact hP, hD⟩, hS.F ht⟩) hS.2.2 d_Md_met_20
  · refine lv_aload_n hx hb d_Md_met_12 rfl (lv_at hl 0 rfl) ?_
    have hFc := rf_freeW hD hS hA
    refine va_calli (rf_runV (As := []) (rest := []) S0 ml_Md_100 (c_Md_gather l D y t0 t1 t2 t3 t4 t5 c0 c1 c2 c3 c4 c5 ma ha ex ey dx dy ab be ri o1 o2 f0 f1 f2 f3 f4 f5 wl hY H.size) hE (va_recv hK hP (ci := 4) (q0 := 0) rfl rfl) ⟨rfl, hP, hD.weaken (fun _ _ _ _ => trivial)⟩ ⟨rfl, rfl, Nat.le_of_ble_eq_true rfl, Nat.le_of_ble_eq_true rfl⟩ rfl hl.1 rfl (Nat.le_of_ble_eq_true rfl) d_Md_met_13 ⟨Nat.zero_le _, Nat.zero_le _⟩) hS (fun q _ h => hFc q h) hFc (fun rg u t H1 locs ht hvm hu hB hz1 hk1 hS => ?_)
    obtain ⟨hP, hD1⟩ := hB
    rw [ht] at hP
    have hD := hD1.weaken (fun k q _ h => hFc q.1 h)
    generalize H1 = H at hP hS ⊢
    obtain ⟨n, g, ab1, be1, ri1, p1, p2, f51⟩ := u
    obtain ⟨hrg, hpg⟩ := hu
    dsimp only at hrg hpg hP hD
    subst hrg
    have hP : va_P D vwCl (y_7 y t0 t1 t2 t3 t4 t5 c0 c1 c2 c3 c4 c5 ma ha ex ey dx dy ab1 be1 ri1 p1 p2 f0 f1 f2 f3 f4 f51) H := hP
    have hD : va_D A (y_7 y t0 t1 t2 t3 t4 t5 c0 c1 c2 c3 c4 c5 ma ha ex ey dx dy ab1 be1 ri1 p1 p2 f0 f1 f2 f3 f4 f51) := hD
    refine lv_goto (tgt := 20) hx hb d_Md_met_16 (by decide) ?_
    exact W.iret (v := nI n) hx hb hr (fun t ht hW => ⟨⟨_, (n, g, ab1, be1, ri1, p1, p2, f51), rfl, ⟨Or.inr ⟨c_1, rfl⟩, hpg⟩, by rw [ht]; exact hP, hD⟩, hS.F ht⟩) hS.2.2 d_Md_met_20
set_option maxHeartbeats 4000000 in
set_option maxRecDepth 100000 in
theorem c_Md_isMet (l : Launch) (D : va_G) (y t0 t1 t2 t3 t4 t5 : Nat) (c0 c1 c2 c3 c4 c5 : ClassId) (ma ha ex ey dx dy : Int32) (ab be : Int64) (ri : Int32) (o1 o2 : Int64) (f0 f1 f2 f3 f4 f5 : Nat → Int32) (wl : Nat → Option Q4) (hY : rf_YF wl f0 f1 f2 f3 f4) (i : Int32) (sz : Nat) : Met l y_Md_isMet (.code y_Md_isMet b_Md_isMet 2 (some (.boolean)) :: BIG) { frames := 4, cells := 0, slots := 0, locals := 160 } (rf_Pc D (y_t c0 c1 c2 c3 c4 c5) [.ref y, .int i] (fun h => h.size = sz ∧ va_P D vwCl (y_7 y t0 t1 t2 t3 t4 t5 c0 c1 c2 c3 c4 c5 ma ha ex ey dx dy ab be ri o1 o2 f0 f1 f2 f3 f4 f5) h ∧ va_D (fun _ => True) (y_7 y t0 t1 t2 t3 t4 t5 c0 c1 c2 c3 c4 c5 ma ha ex ey dx dy ab be ri o1 o2 f0 f1 f2 f3 f4 f5))) (va_Qi (S := Nat × (Nat → Nat) × Int64 × Int64 × Int32 × Int64 × Int64 × (Nat → Int32)) (fun r u => (i < 0 ∧ r = 0) ∨ (rf_PG wl ha (ex, ey, dx, dy) u.1 u.2.1 u.2.2.2.2.2.2.2 ∧ rf_tf r (∃ k, k < u.1 ∧ i = nI k))) (fun u t => va_P D vwCl (y_7 y t0 t1 t2 t3 t4 t5 c0 c1 c2 c3 c4 c5 ma ha ex ey dx dy u.2.2.1 u.2.2.2.1 u.2.2.2.2.1 u.2.2.2.2.2.1 u.2.2.2.2.2.2.1 f0 f1 f2 f3 f4 u.2.2.2.2.2.2.2) t.heap ∧ va_D (va_A (y_7 y t0 t1 t2 t3 t4 t5 c0 c1 c2 c3 c4 c5 ma ha ex ey dx dy ab be ri o1 o2 f0 f1 f2 f3 f4 f5) sz) (y_7 y t0 t1 t2 t3 t4 t5 c0 c1 c2 c3 c4 c5 ma ha ex ey dx dy u.2.2.1 u.2.2.2.1 u.2.2.2.2.1 u.2.2.2.2.2.1 u.2.2.2.2.2.2.1 f0 f1 f2 f3 f4 u.2.2.2.2.2.2.2)) (va_A (y_7 y t0 t1 t2 t3 t4 t5 c0 c1 c2 c3 c4 c5 ma ha ex ey dx dy ab be ri o1 o2 f0 f1 f2 f3 f4 f5) sz)) 0 0 (va_A (y_7 y t0 t1 t2 t3 t4 t5 c0 c1 c2 c3 c4 c5 ma ha ex ey dx dy ab be ri o1 o2 f0 f1 f2 f3 f4 f5) sz) := by
  refine Met.ofW (cc := b_Md_isMet) (maxL := 2) (ret := (some (.boolean))) (by decide) rfl ?_
  intro p e s m args below meth c s₁ B hml hv
  obtain ⟨rfl, hE, hP⟩ := hv
  have hx := B.exec
  have hb := B.bytes
  have hr := B.returns
  have hts : ∀ w ∈ BIG, w.before [.ref y, .int i].toArray s = true := fun w h => atoms_spec (ws := .code y_Md_isMet b_Md_isMet 2 (some (.boolean)) :: BIG) B.pre w (List.mem_cons_of_mem _ h)
  have hown : s.vm.findClass "RayFieldModel" = some m.cls := findClass_of_methodNamed B.named
  have hlocks := B.notSynchronized
  have hK := hE.2
  have S0 : CallFix p m c b_Md_isMet 2 s [.ref y, .int i].toArray BIG "RayFieldModel" := ⟨hx, hb, hml, hown, hts⟩
  have hl := lv_entry ([.ref y, .int i]) (n := 2) (Nat.le_of_ble_eq_true rfl)
  rw [lg_entry_eq]
  generalize (lg_sl ([.ref y, .int i]) ++ List.replicate (2 - (lg_sl ([.ref y, .int i])).length) Slot.unset).toArray = ls at hl ⊢
  have hl : lv_has ls 2 [(0, .ref y), (1, .int i)] := hl
  obtain ⟨hsz, hP, hD0⟩ := hP
  subst hsz
  have hD := hD0.self (sz := s.heap.size)
  generalize hAe : va_A (y_7 y t0 t1 t2 t3 t4 t5 c0 c1 c2 c3 c4 c5 ma ha ex ey dx dy ab be ri o1 o2 f0 f1 f2 f3 f4 f5) s.heap.size = A at hD ⊢
  have hA : ∀ q : Nat, s.heap.size ≤ q → A q := fun q h => by rw [← hAe]; exact Or.inr h
  obtain ⟨H, hH⟩ : ∃ H : Heap, H = s.heap := ⟨_, rfl⟩
  refine rf_heap hH ?_
  have hS : va_S A s.heap H [] := by rw [hH]; exact va_S.rf
  have hP : va_P D vwCl (y_7 y t0 t1 t2 t3 t4 t5 c0 c1 c2 c3 c4 c5 ma ha ex ey dx dy ab be ri o1 o2 f0 f1 f2 f3 f4 f5) H := by rw [hH]; exact hP
  refine lv_iload_n hx hb d_Md_isMet_0 rfl (lv_at hl 1 rfl) ?_
  refine lv_if_lt (tgt := 16) hx hb d_Md_isMet_1 (by decide) (fun c_1 => ?_) (fun c_1 => ?_)
  · refine lv_iconst (v := 0) hx hb d_Md_isMet_16 (by decide) ?_
    exact W.zret (v := 0) (ty := .boolean) hx hb hr rfl (fun t ht hW => ⟨⟨_, (0, fun _ => 0, ab, be, ri, o1, o2, f5), rfl, (Or.inl ⟨c_1, rfl⟩), by rw [ht]; exact hP, hD⟩, hS.F ht⟩) hS.2.2 d_Md_isMet_17
  · refine lv_iload_n hx hb d_Md_isMet_4 rfl (lv_at hl 1 rfl) ?_
    refine lv_aload_n hx hb d_Md_isMet_5 rfl (lv_at hl 0 rfl) ?_
    have hFc := rf_freeW hD hS hA
    refine va_calli (rf_runV (As := []) (rest := [.int i]) S0 ml_Md_100 (c_Md_gather l D y t0 t1 t2 t3 t4 t5 c0 c1 c2 c3 c4 c5 ma ha ex ey dx dy ab be ri o1 o2 f0 f1 f2 f3 f4 f5 wl hY H.size) hE (va_recv hK hP (ci := 4) (q0 := 0) rfl rfl) ⟨rfl, hP, hD.weaken (fun _ _ _ _ => trivial)⟩ ⟨rfl, rfl, Nat.le_of_ble_eq_true rfl, Nat.le_of_ble_eq_true rfl⟩ rfl hl.1 rfl (Nat.le_of_ble_eq_true rfl) d_Md_isMet_6 ⟨Nat.zero_le _, Nat.zero_le _⟩) hS (fun q _ h => hFc q h) hFc (fun rg u t H1 locs ht hvm hu hB hz1 hk1 hS => ?_)
    obtain ⟨hP, hD1⟩ := hB
    rw [ht] at hP
    have hD := hD1.weaken (fun k q _ h => hFc q.1 h)
    generalize H1 = H at hP hS ⊢
    obtain ⟨n, g, ab1, be1, ri1, p1, p2, f51⟩ := u
    obtain ⟨hrg, hpg⟩ := hu
    dsimp only at hrg hpg hP hD
    subst hrg
    have hP : va_P D vwCl (y_7 y t0 t1 t2 t3 t4 t5 c0 c1 c2 c3 c4 c5 ma ha ex ey dx dy ab1 be1 ri1 p1 p2 f0 f1 f2 f3 f4 f51) H := hP
    have hD : va_D A (y_7 y t0 t1 t2 t3 t4 t5 c0 c1 c2 c3 c4 c5 ma ha ex ey dx dy ab1 be1 ri1 p1 p2 f0 f1 f2 f3 f4 f51) := hD
    have hn64 := hpg.1
    refine lv_icmp_ge (tgt := 16) hx hb d_Md_isMet_9 (by decide) (fun c_2 => ?_) (fun c_2 => ?_)
    · refine lv_iconst (v := 0) hx hb d_Md_isMet_16 (by decide) ?_
      exact W.zret (v := 0) (ty := .boolean) hx hb hr rfl (fun t ht hW => ⟨⟨_, (n, g, ab1, be1, ri1, p1, p2, f51), rfl, (Or.inr ⟨hpg, rf_F (fun ⟨k, hk, ek⟩ => rf_ix0 (n := n) (by omega) (Or.inr c_2) k hk ek)⟩), by rw [ht]; exact hP, hD⟩, hS.F ht⟩) hS.2.2 d_Md_isMet_17
    · refine lv_iconst (v := 1) hx hb d_Md_isMet_12 (by decide) ?_
      refine lv_goto (tgt := 17) hx hb d_Md_isMet_13 (by decide) ?_
      exact W.zret (v := 1) (ty := .boolean) hx hb hr rfl (fun t ht hW => ⟨⟨_, (n, g, ab1, be1, ri1, p1, p2, f51), rfl, (Or.inr ⟨hpg, rf_T (rf_ix (n := n) (by omega) c_1 c_2)⟩), by rw [ht]; exact hP, hD⟩, hS.F ht⟩) hS.2.2 d_Md_isMet_17
set_option maxHeartbeats 4000000 in
set_option maxRecDepth 100000 in
theorem c_Md_wall (l : Launch) (D : va_G) (y t0 t1 t2 t3 t4 t5 : Nat) (c0 c1 c2 c3 c4 c5 : ClassId) (ma ha ex ey dx dy : Int32) (ab be : Int64) (ri : Int32) (o1 o2 : Int64) (f0 f1 f2 f3 f4 f5 : Nat → Int32) (wl : Nat → Option Q4) (hY : rf_YF wl f0 f1 f2 f3 f4) (i : Int32) (sz : Nat) : Met l y_Md_wall (.code y_Md_wall b_Md_wall 2 (some (.int)) :: BIG) { frames := 5, cells := 0, slots := 0, locals := 200 } (rf_Pc D (y_t c0 c1 c2 c3 c4 c5) [.ref y, .int i] (fun h => h.size = sz ∧ va_P D vwCl (y_7 y t0 t1 t2 t3 t4 t5 c0 c1 c2 c3 c4 c5 ma ha ex ey dx dy ab be ri o1 o2 f0 f1 f2 f3 f4 f5) h ∧ va_D (fun _ => True) (y_7 y t0 t1 t2 t3 t4 t5 c0 c1 c2 c3 c4 c5 ma ha ex ey dx dy ab be ri o1 o2 f0 f1 f2 f3 f4 f5))) (va_Qi (S := Nat × (Nat → Nat) × Int64 × Int64 × Int32 × Int64 × Int64 × (Nat → Int32)) (fun r u => (∃ k, k < u.1 ∧ i = nI k ∧ r = nI (u.2.1 k) ∧ rf_PG wl ha (ex, ey, dx, dy) u.1 u.2.1 u.2.2.2.2.2.2.2) ∨ ((i < 0 ∨ (rf_PG wl ha (ex, ey, dx, dy) u.1 u.2.1 u.2.2.2.2.2.2.2 ∧ ∀ k, k < u.1 → ¬ i = nI k)) ∧ r = -1)) (fun u t => va_P D vwCl (y_7 y t0 t1 t2 t3 t4 t5 c0 c1 c2 c3 c4 c5 ma ha ex ey dx dy u.2.2.1 u.2.2.2.1 u.2.2.2.2.1 u.2.2.2.2.2.1 u.2.2.2.2.2.2.1 f0 f1 f2 f3 f4 u.2.2.2.2.2.2.2) t.heap ∧ va_D (va_A (y_7 y t0 t1 t2 t3 t4 t5 c0 c1 c2 c3 c4 c5 ma ha ex ey dx dy ab be ri o1 o2 f0 f1 f2 f3 f4 f5) sz) (y_7 y t0 t1 t2 t3 t4 t5 c0 c1 c2 c3 c4 c5 ma ha ex ey dx dy u.2.2.1 u.2.2.2.1 u.2.2.2.2.1 u.2.2.2.2.2.1 u.2.2.2.2.2.2.1 f0 f1 f2 f3 f4 u.2.2.2.2.2.2.2)) (va_A (y_7 y t0 t1 t2 t3 t4 t5 c0 c1 c2 c3 c4 c5 ma ha ex ey dx dy ab be ri o1 o2 f0 f1 f2 f3 f4 f5) sz)) 0 0 (va_A (y_7 y t0 t1 t2 t3 t4 t5 c0 c1 c2 c3 c4 c5 ma ha ex ey dx dy ab be ri o1 o2 f0 f1 f2 f3 f4 f5) sz) := by
  refine Met.ofW (cc := b_Md_wall) (maxL := 2) (ret := (some (.int))) (by decide) rfl ?_
  intro p e s m args below meth c s₁ B hml hv
  obtain ⟨rfl, hE, hP⟩ := hv
  have hx := B.exec
  have hb := B.bytes
  have hr := B.returns
  have hts : ∀ w ∈ BIG, w.before [.ref y, .int i].toArray s = true := fun w h => atoms_spec (ws := .code y_Md_wall b_Md_wall 2 (some (.int)) :: BIG) B.pre w (List.mem_cons_of_mem _ h)
  have hown : s.vm.findClass "RayFieldModel" = some m.cls := findClass_of_methodNamed B.named
  have hlocks := B.notSynchronized
  have hK := hE.2
  have S0 : CallFix p m c b_Md_wall 2 s [.ref y, .int i].toArray BIG "RayFieldModel" := ⟨hx, hb, hml, hown, hts⟩
  have hl := lv_entry ([.ref y, .int i]) (n := 2) (Nat.le_of_ble_eq_true rfl)
  rw [lg_entry_eq]
  generalize (lg_sl ([.ref y, .int i]) ++ List.replicate (2 - (lg_sl ([.ref y, .int i])).length) Slot.unset).toArray = ls at hl ⊢
  have hl : lv_has ls 2 [(0, .ref y), (1, .int i)] := hl
  obtain ⟨hsz, hP, hD0⟩ := hP
  subst hsz
  have hD := hD0.self (sz := s.heap.size)
  generalize hAe : va_A (y_7 y t0 t1 t2 t3 t4 t5 c0 c1 c2 c3 c4 c5 ma ha ex ey dx dy ab be ri o1 o2 f0 f1 f2 f3 f4 f5) s.heap.size = A at hD ⊢
  have hA : ∀ q : Nat, s.heap.size ≤ q → A q := fun q h => by rw [← hAe]; exact Or.inr h
  obtain ⟨H, hH⟩ : ∃ H : Heap, H = s.heap := ⟨_, rfl⟩
  refine rf_heap hH ?_
  have hS : va_S A s.heap H [] := by rw [hH]; exact va_S.rf
  have hP : va_P D vwCl (y_7 y t0 t1 t2 t3 t4 t5 c0 c1 c2 c3 c4 c5 ma ha ex ey dx dy ab be ri o1 o2 f0 f1 f2 f3 f4 f5) H := by rw [hH]; exact hP
  refine lv_aload_n hx hb d_Md_wall_0 rfl (lv_at hl 0 rfl) ?_
  refine lv_iconst (v := 0) hx hb d_Md_wall_1 (by decide) ?_
  refine va_put (D := D) (ci := 4) (v := .int 0) (ty := .int) (C := "RayFieldModel") (T := F_Md) (N := 18) hx hb hts in_Md t_Md tok_Md nn_Md hown hK hP hD hS 0 rfl rfl 0 (by decide) (hts _ w_280) (fun _ h9 => h9) rfl (by decide +kernel) rfl rfl (Nat.le_of_ble_eq_true rfl) d_Md_wall_2 (fun H locs hP hD hS => ?_)
  have hP : va_P D vwCl (y_7 y t0 t1 t2 t3 t4 t5 c0 c1 c2 c3 c4 c5 ma ha ex ey dx dy ab be ri o1 o2 f0 f1 f2 f3 f4 f5) H := hP
  have hD : va_D A (y_7 y t0 t1 t2 t3 t4 t5 c0 c1 c2 c3 c4 c5 ma ha ex ey dx dy ab be ri o1 o2 f0 f1 f2 f3 f4 f5) := hD
  refine lv_aload_n hx hb d_Md_wall_5 rfl (lv_at hl 0 rfl) ?_
  refine lv_iload_n hx hb d_Md_wall_6 rfl (lv_at hl 1 rfl) ?_
  have hFc := rf_freeW hD hS hA
  refine va_calli (rf_runV (As := [.int i]) (rest := []) S0 ml_Md_103 (c_Md_isMet l D y t0 t1 t2 t3 t4 t5 c0 c1 c2 c3 c4 c5 ma ha ex ey dx dy ab be ri o1 o2 f0 f1 f2 f3 f4 f5 wl hY i H.size) hE (va_recv hK hP (ci := 4) (q0 := 0) rfl rfl) ⟨rfl, hP, hD.weaken (fun _ _ _ _ => trivial)⟩ ⟨rfl, rfl, Nat.le_of_ble_eq_true rfl, Nat.le_of_ble_eq_true rfl⟩ rfl hl.1 rfl (Nat.le_of_ble_eq_true rfl) d_Md_wall_7 ⟨Nat.zero_le _, Nat.zero_le _⟩) hS (fun q _ h => hFc q h) hFc (fun rm u t H1 locs ht hvm hu hB hz1 hk1 hS => ?_)
  obtain ⟨hP, hD1⟩ := hB
  rw [ht] at hP
  have hD := hD1.weaken (fun k q _ h => hFc q.1 h)
  generalize H1 = H at hP hS ⊢
  obtain ⟨n, g, ab1, be1, ri1, p1, p2, f51⟩ := u
  dsimp only at hu hP hD
  have hP : va_P D vwCl (y_7 y t0 t1 t2 t3 t4 t5 c0 c1 c2 c3 c4 c5 ma ha ex ey dx dy ab1 be1 ri1 p1 p2 f0 f1 f2 f3 f4 f51) H := hP
  have hD : va_D A (y_7 y t0 t1 t2 t3 t4 t5 c0 c1 c2 c3 c4 c5 ma ha ex ey dx dy ab1 be1 ri1 p1 p2 f0 f1 f2 f3 f4 f51) := hD
  have hcase : (rm = 0 ∧ (i < 0 ∨ (rf_PG wl ha (ex, ey, dx, dy) n g f51 ∧ ∀ k, k < n → ¬ i = nI k))) ∨ (rm = 1 ∧ rf_PG wl ha (ex, ey, dx, dy) n g f51 ∧ ∃ k, k < n ∧ i = nI k) := by
    rcases hu with ⟨h1, h2⟩ | ⟨h1, h2 | h2⟩
    · exact Or.inl ⟨h2, Or.inl h1⟩
    · exact Or.inr ⟨h2.1, h1, h2.2⟩
    · exact Or.inl ⟨h2.1, Or.inr ⟨h1, fun k hk ek => h2.2 ⟨k, hk, ek⟩⟩⟩
  rcases hcase with ⟨erm, hno⟩ | ⟨erm, hpg, k, hk, ek⟩
  · subst erm
    refine lv_if_eq (tgt := 22) hx hb d_Md_wall_10 (by decide) (fun c_1 => ?_) (fun c_1 => absurd rfl c_1)
    refine lv_iconst (v := -1) hx hb d_Md_wall_22 (by decide) ?_
    exact W.iret (v := (-1)) hx hb hr (fun t ht hW => ⟨⟨_, (n, g, ab1, be1, ri1, p1, p2, f51), rfl, (Or.inr ⟨hno, rfl⟩), by rw [ht]; exact hP, hD⟩, hS.F ht⟩) hS.2.2 d_Md_wall_23
  · subst erm
    subst ek
    obtain ⟨hfk, hg64, hkm⟩ := rf_PG.at hpg hk
    obtain ⟨hwk, hmk⟩ := rf_kmt.get hY hg64 hkm
    have hn64 := hpg.1
    refine lv_if_eq (tgt := 22) hx hb d_Md_wall_10 (by decide) (fun c_2 => absurd c_2 (by decide)) (fun c_2 => ?_)
    refine lv_aload_n hx hb d_Md_wall_13 rfl (lv_at hl 0 rfl) ?_
    refine va_get (D := D) (ci := 4) (v := .ref t5) (C := "RayFieldModel") (T := F_Md) (N := 18) hx hb hts in_Md hown hK hP 0 rfl rfl 17 (by decide) (hts _ w_297) (fun _ h9 => h9) rfl d_Md_wall_14 ?_
    refine lv_iload_n hx hb d_Md_wall_17 rfl (lv_at hl 1 rfl) ?_
    refine rf_iald hx hb hK hP 6 5 rfl rfl (show k < 64 by omega) (by decide) d_Md_wall_18 ?_
    rw [hfk]
    refine lv_goto (tgt := 23) hx hb d_Md_wall_19 (by decide) ?_
    exact W.iret (v := nI (g k)) hx hb hr (fun t ht hW => ⟨⟨_, (n, g, ab1, be1, ri1, p1, p2, f51), rfl, (Or.inl ⟨k, hk, rfl, rfl, hpg⟩), by rw [ht]; exact hP, hD⟩, hS.F ht⟩) hS.2.2 d_Md_wall_23
set_option maxHeartbeats 4000000 in
set_option maxRecDepth 100000 in
theorem c_Md_isRight (l : Launch) (D : va_G) (y t0 t1 t2 t3 t4 t5 : Nat) (c0 c1 c2 c3 c4 c5 : ClassId) (ma ha ex ey dx dy : Int32) (ab be : Int64) (ri : Int32) (o1 o2 : Int64) (f0 f1 f2 f3 f4 f5 : Nat → Int32) (wl : Nat → Option Q4) (hY : rf_YF wl f0 f1 f2 f3 f4) (i : Int32) (sz : Nat) : Met l y_Md_isRight (.code y_Md_isRight b_Md_isRight 2 (some (.boolean)) :: BIG) { frames := 5, cells := 0, slots := 0, locals := 200 } (rf_Pc D (y_t c0 c1 c2 c3 c4 c5) [.ref y, .int i] (fun h => h.size = sz ∧ va_P D vwCl (y_7 y t0 t1 t2 t3 t4 t5 c0 c1 c2 c3 c4 c5 ma ha ex ey dx dy ab be ri o1 o2 f0 f1 f2 f3 f4 f5) h ∧ va_D (fun _ => True) (y_7 y t0 t1 t2 t3 t4 t5 c0 c1 c2 c3 c4 c5 ma ha ex ey dx dy ab be ri o1 o2 f0 f1 f2 f3 f4 f5))) (va_Qi (S := Nat × (Nat → Nat) × Int64 × Int64 × Int32 × Int64 × Int64 × (Nat → Int32)) (fun r u => (i < 0 ∧ r = 0) ∨ (rf_PG wl ha (ex, ey, dx, dy) u.1 u.2.1 u.2.2.2.2.2.2.2 ∧ rf_tf r (∃ k, k < u.1 ∧ i = nI k ∧ ∃ w, wl (u.2.1 k) = some w ∧ k_p0 w (ex, ey, dx, dy) < 0))) (fun u t => va_P D vwCl (y_7 y t0 t1 t2 t3 t4 t5 c0 c1 c2 c3 c4 c5 ma ha ex ey dx dy u.2.2.1 u.2.2.2.1 u.2.2.2.2.1 u.2.2.2.2.2.1 u.2.2.2.2.2.2.1 f0 f1 f2 f3 f4 u.2.2.2.2.2.2.2) t.heap ∧ va_D (va_A (y_7 y t0 t1 t2 t3 t4 t5 c0 c1 c2 c3 c4 c5 ma ha ex ey dx dy ab be ri o1 o2 f0 f1 f2 f3 f4 f5) sz) (y_7 y t0 t1 t2 t3 t4 t5 c0 c1 c2 c3 c4 c5 ma ha ex ey dx dy u.2.2.1 u.2.2.2.1 u.2.2.2.2.1 u.2.2.2.2.2.1 u.2.2.2.2.2.2.1 f0 f1 f2 f3 f4 u.2.2.2.2.2.2.2)) (va_A (y_7 y t0 t1 t2 t3 t4 t5 c0 c1 c2 c3 c4 c5 ma ha ex ey dx dy ab be ri o1 o2 f0 f1 f2 f3 f4 f5) sz)) 0 0 (va_A (y_7 y t0 t1 t2 t3 t4 t5 c0 c1 c2 c3 c4 c5 ma ha ex ey dx dy ab be ri o1 o2 f0 f1 f2 f3 f4 f5) sz) := by
  refine Met.ofW (cc := b_Md_isRight) (maxL := 2) (ret := (some (.boolean))) (by decide) rfl ?_
  intro p e s m args below meth c s₁ B hml hv
  obtain ⟨rfl, hE, hP⟩ := hv
  have hx := B.exec
  have hb := B.bytes
  have hr := B.returns
  have hts : ∀ w ∈ BIG, w.before [.ref y, .int i].toArray s = true := fun w h => atoms_spec (ws := .code y_Md_isRight b_Md_isRight 2 (some (.boolean)) :: BIG) B.pre w (List.mem_cons_of_mem _ h)
  have hown : s.vm.findClass "RayFieldModel" = some m.cls := findClass_of_methodNamed B.named
  have hlocks := B.notSynchronized
  have hK := hE.2
  have S0 : CallFix p m c b_Md_isRight 2 s [.ref y, .int i].toArray BIG "RayFieldModel" := ⟨hx, hb, hml, hown, hts⟩
  have hl := lv_entry ([.ref y, .int i]) (n := 2) (Nat.le_of_ble_eq_true rfl)
  rw [lg_entry_eq]
  generalize (lg_sl ([.ref y, .int i]) ++ List.replicate (2 - (lg_sl ([.ref y, .int i])).length) Slot.unset).toArray = ls at hl ⊢
  have hl : lv_has ls 2 [(0, .ref y), (1, .int i)] := hl
  obtain ⟨hsz, hP, hD0⟩ := hP
  subst hsz
  have hD := hD0.self (sz := s.heap.size)
  generalize hAe : va_A (y_7 y t0 t1 t2 t3 t4 t5 c0 c1 c2 c3 c4 c5 ma ha ex ey dx dy ab be ri o1 o2 f0 f1 f2 f3 f4 f5) s.heap.size = A at hD ⊢
  have hA : ∀ q : Nat, s.heap.size ≤ q → A q := fun q h => by rw [← hAe]; exact Or.inr h
  obtain ⟨H, hH⟩ : ∃ H : Heap, H = s.heap := ⟨_, rfl⟩
  refine rf_heap hH ?_
  have hS : va_S A s.heap H [] := by rw [hH]; exact va_S.rf
  have hP : va_P D vwCl (y_7 y t0 t1 t2 t3 t4 t5 c0 c1 c2 c3 c4 c5 ma ha ex ey dx dy ab be ri o1 o2 f0 f1 f2 f3 f4 f5) H := by rw [hH]; exact hP
  refine lv_aload_n hx hb d_Md_isRight_0 rfl (lv_at hl 0 rfl) ?_
  refine lv_iconst (v := 0) hx hb d_Md_isRight_1 (by decide) ?_
  refine va_put (D := D) (ci := 4) (v := .int 0) (ty := .int) (C := "RayFieldModel") (T := F_Md) (N := 18) hx hb hts in_Md t_Md tok_Md nn_Md hown hK hP hD hS 0 rfl rfl 0 (by decide) (hts _ w_280) (fun _ h9 => h9) rfl (by decide +kernel) rfl rfl (Nat.le_of_ble_eq_true rfl) d_Md_isRight_2 (fun H locs hP hD hS => ?_)
  have hP : va_P D vwCl (y_7 y t0 t1 t2 t3 t4 t5 c0 c1 c2 c3 c4 c5 ma ha ex ey dx dy ab be ri o1 o2 f0 f1 f2 f3 f4 f5) H := hP
  have hD : va_D A (y_7 y t0 t1 t2 t3 t4 t5 c0 c1 c2 c3 c4 c5 ma ha ex ey dx dy ab be ri o1 o2 f0 f1 f2 f3 f4 f5) := hD
  refine lv_aload_n hx hb d_Md_isRight_5 rfl (lv_at hl 0 rfl) ?_
  refine lv_iload_n hx hb d_Md_isRight_6 rfl (lv_at hl 1 rfl) ?_
  have hFc := rf_freeW hD hS hA
  refine va_calli (rf_runV (As := [.int i]) (rest := []) S0 ml_Md_103 (c_Md_isMet l D y t0 t1 t2 t3 t4 t5 c0 c1 c2 c3 c4 c5 ma ha ex ey dx dy ab be ri o1 o2 f0 f1 f2 f3 f4 f5 wl hY i H.size) hE (va_recv hK hP (ci := 4) (q0 := 0) rfl rfl) ⟨rfl, hP, hD.weaken (fun _ _ _ _ => trivial)⟩ ⟨rfl, rfl, Nat.le_of_ble_eq_true rfl, Nat.le_of_ble_eq_true rfl⟩ rfl hl.1 rfl (Nat.le_of_ble_eq_true rfl) d_Md_isRight_7 ⟨Nat.zero_le _, Nat.zero_le _⟩) hS (fun q _ h => hFc q h) hFc (fun rm u t H1 locs ht hvm hu hB hz1 hk1 hS => ?_)
  obtain ⟨hP, hD1⟩ := hB
  rw [ht] at hP
  have hD := hD1.weaken (fun k q _ h => hFc q.1 h)
  generalize H1 = H at hP hS ⊢
  obtain ⟨n, g, ab1, be1, ri1, p1, p2, f51⟩ := u
  dsimp only at hu hP hD
  have hP : va_P D vwCl (y_7 y t0 t1 t2 t3 t4 t5 c0 c1 c2 c3 c4 c5 ma ha ex ey dx dy ab1 be1 ri1 p1 p2 f0 f1 f2 f3 f4 f51) H := hP
  have hD : va_D A (y_7 y t0 t1 t2 t3 t4 t5 c0 c1 c2 c3 c4 c5 ma ha ex ey dx dy ab1 be1 ri1 p1 p2 f0 f1 f2 f3 f4 f51) := hD
  have hcase : (rm = 0 ∧ (i < 0 ∨ (rf_PG wl ha (ex, ey, dx, dy) n g f51 ∧ ∀ k, k < n → ¬ i = nI k))) ∨ (rm = 1 ∧ rf_PG wl ha (ex, ey, dx, dy) n g f51 ∧ ∃ k, k < n ∧ i = nI k) := by
    rcases hu with ⟨h1, h2⟩ | ⟨h1, h2 | h2⟩
    · exact Or.inl ⟨h2, Or.inl h1⟩
    · exact Or.inr ⟨h2.1, h1, h2.2⟩
    · exact Or.inl ⟨h2.1, Or.inr ⟨h1, fun k hk ek => h2.2 ⟨k, hk, ek⟩⟩⟩
  rcases hcase with ⟨erm, hno⟩ | ⟨erm, hpg, k, hk, ek⟩
  · subst erm
    refine lv_if_eq (tgt := 37) hx hb d_Md_isRight_10 (by decide) (fun c_1 => ?_) (fun c_1 => absurd rfl c_1)
    refine lv_iconst (v := 0) hx hb d_Md_isRight_37 (by decide) ?_
    exact W.zret (v := 0) (ty := .boolean) hx hb hr rfl (fun t ht hW => ⟨⟨_, (n, g, ab1, be1, ri1, p1, p2, f51), rfl, (hno.elim (fun h => Or.inl ⟨h, rfl⟩) (fun h => Or.inr ⟨h.1, rf_F (fun ⟨k, hk, ek, _⟩ => h.2 k hk ek)⟩)), by rw [ht]; exact hP, hD⟩, hS.F ht⟩) hS.2.2 d_Md_isRight_38
  · subst erm
    subst ek
    obtain ⟨hfk, hg64, hkm⟩ := rf_PG.at hpg hk
    obtain ⟨hwk, hmk⟩ := rf_kmt.get hY hg64 hkm
    have hn64 := hpg.1
    refine lv_if_eq (tgt := 37) hx hb d_Md_isRight_10 (by decide) (fun c_2 => absurd c_2 (by decide)) (fun c_2 => ?_)
    refine lv_aload_n hx hb d_Md_isRight_13 rfl (lv_at hl 0 rfl) ?_
    refine lv_aload_n hx hb d_Md_isRight_14 rfl (lv_at hl 0 rfl) ?_
    refine va_get (D := D) (ci := 4) (v := .ref t5) (C := "RayFieldModel") (T := F_Md) (N := 18) hx hb hts in_Md hown hK hP 0 rfl rfl 17 (by decide) (hts _ w_297) (fun _ h9 => h9) rfl d_Md_isRight_15 ?_
    refine lv_iload_n hx hb d_Md_isRight_18 rfl (lv_at hl 1 rfl) ?_
    refine rf_iald hx hb hK hP 6 5 rfl rfl (show k < 64 by omega) (by decide) d_Md_isRight_19 ?_
    rw [hfk]
    have hFc := rf_freeW hD hS hA
    refine va_calli (rf_runV (As := [.int (nI (g k))]) (rest := []) S0 ml_Md_94 (c_Md_meets l D y t0 t1 t2 t3 t4 t5 c0 c1 c2 c3 c4 c5 ma ha ex ey dx dy ab1 be1 ri1 p1 p2 f0 f1 f2 f3 f4 f51 (g k) hg64 H.size) hE (va_recv hK hP (ci := 4) (q0 := 0) rfl rfl) ⟨rfl, hP, hD.weaken (fun _ _ _ _ => trivial)⟩ ⟨rfl, rfl, Nat.le_of_ble_eq_true rfl, Nat.le_of_ble_eq_true rfl⟩ rfl hl.1 rfl (Nat.le_of_ble_eq_true rfl) d_Md_isRight_20 ⟨Nat.zero_le _, Nat.zero_le _⟩) hS (fun q _ h => hFc q h) hFc (fun r_3 u t H1 locs ht hvm hm_4 hB hz1 hk1 hS => ?_)
    obtain ⟨hP, hD1⟩ := hB
    rw [ht] at hP
    have hD := hD1.weaken (fun k q _ h => hFc q.1 h)
    generalize H1 = H at hP hS ⊢
    have hP : va_P D vwCl (y_7 y t0 t1 t2 t3 t4 t5 c0 c1 c2 c3 c4 c5 ma ha ex ey dx dy (k_up (f1 (g k), f2 (g k), f3 (g k), f4 (g k)) (ex, ey, dx, dy)) (k_dn (f1 (g k), f2 (g k), f3 (g k), f4 (g k)) (ex, ey, dx, dy)) (k_ri (f1 (g k), f2 (g k), f3 (g k), f4 (g k)) (ex, ey, dx, dy)) (m_a (f1 (g k), f2 (g k), f3 (g k), f4 (g k)) (ex, ey, dx, dy)) (m_b (f1 (g k), f2 (g k), f3 (g k), f4 (g k)) (ex, ey, dx, dy)) f0 f1 f2 f3 f4 f51) H := hP
    have hD : va_D A (y_7 y t0 t1 t2 t3 t4 t5 c0 c1 c2 c3 c4 c5 ma ha ex ey dx dy (k_up (f1 (g k), f2 (g k), f3 (g k), f4 (g k)) (ex, ey, dx, dy)) (k_dn (f1 (g k), f2 (g k), f3 (g k), f4 (g k)) (ex, ey, dx, dy)) (k_ri (f1 (g k), f2 (g k), f3 (g k), f4 (g k)) (ex, ey, dx, dy)) (m_a (f1 (g k), f2 (g k), f3 (g k), f4 (g k)) (ex, ey, dx, dy)) (m_b (f1 (g k), f2 (g k), f3 (g k), f4 (g k)) (ex, ey, dx, dy)) f0 f1 f2 f3 f4 f51) := hD
    refine lv_if_eq (tgt := 37) hx hb d_Md_isRight_23 (by decide) (fun c_5 => ?_) (fun c_5 => ?_)
    · refine lv_iconst (v := 0) hx hb d_Md_isRight_37 (by decide) ?_
      exact W.zret (v := 0) (ty := .boolean) hx hb hr rfl (fun t ht hW => ⟨⟨_, (n, g, k_up (f1 (g k), f2 (g k), f3 (g k), f4 (g k)) (ex, ey, dx, dy), k_dn (f1 (g k), f2 (g k), f3 (g k), f4 (g k)) (ex, ey, dx, dy), k_ri (f1 (g k), f2 (g k), f3 (g k), f4 (g k)) (ex, ey, dx, dy), m_a (f1 (g k), f2 (g k), f3 (g k), f4 (g k)) (ex, ey, dx, dy), m_b (f1 (g k), f2 (g k), f3 (g k), f4 (g k)) (ex, ey, dx, dy), f51), rfl, (absurd hmk (hm_4.f c_5)), by rw [ht]; exact hP, hD⟩, hS.F ht⟩) hS.2.2 d_Md_isRight_38
    · refine lv_aload_n hx hb d_Md_isRight_26 rfl (lv_at hl 0 rfl) ?_
      refine va_get (D := D) (ci := 4) (v := .int (k_ri (f1 (g k), f2 (g k), f3 (g k), f4 (g k)) (ex, ey, dx, dy))) (C := "RayFieldModel") (T := F_Md) (N := 18) hx hb hts in_Md hown hK hP 0 rfl rfl 14 (by decide) (hts _ w_294) (fun _ h9 => h9) rfl d_Md_isRight_27 ?_
      refine lv_if_eq (tgt := 37) hx hb d_Md_isRight_30 (by decide) (fun c_6 => ?_) (fun c_6 => ?_)
      · refine lv_iconst (v := 0) hx hb d_Md_isRight_37 (by decide) ?_
        exact W.zret (v := 0) (ty := .boolean) hx hb hr rfl (fun t ht hW => ⟨⟨_, (n, g, k_up (f1 (g k), f2 (g k), f3 (g k), f4 (g k)) (ex, ey, dx, dy), k_dn (f1 (g k), f2 (g k), f3 (g k), f4 (g k)) (ex, ey, dx, dy), k_ri (f1 (g k), f2 (g k), f3 (g k), f4 (g k)) (ex, ey, dx, dy), m_a (f1 (g k), f2 (g k), f3 (g k), f4 (g k)) (ex, ey, dx, dy), m_b (f1 (g k), f2 (g k), f3 (g k), f4 (g k)) (ex, ey, dx, dy), f51), rfl, (Or.inr ⟨hpg, rf_F (rf_onlyk hn64 hk rfl hwk (P := fun w => k_p0 w (ex, ey, dx, dy) < 0) (k_ri_f c_6))⟩), by rw [ht]; exact hP, hD⟩, hS.F ht⟩) hS.2.2 d_Md_isRight_38
      · refine lv_iconst (v := 1) hx hb d_Md_isRight_33 (by decide) ?_
        refine lv_goto (tgt := 38) hx hb d_Md_isRight_34 (by decide) ?_
        exact W.zret (v := 1) (ty := .boolean) hx hb hr rfl (fun t ht hW => ⟨⟨_, (n, g, k_up (f1 (g k), f2 (g k), f3 (g k), f4 (g k)) (ex, ey, dx, dy), k_dn (f1 (g k), f2 (g k), f3 (g k), f4 (g k)) (ex, ey, dx, dy), k_ri (f1 (g k), f2 (g k), f3 (g k), f4 (g k)) (ex, ey, dx, dy), m_a (f1 (g k), f2 (g k), f3 (g k), f4 (g k)) (ex, ey, dx, dy), m_b (f1 (g k), f2 (g k), f3 (g k), f4 (g k)) (ex, ey, dx, dy), f51), rfl, (Or.inr ⟨hpg, rf_T ⟨k, hk, rfl, _, hwk, k_ri_t c_6⟩⟩), by rw [ht]; exact hP, hD⟩, hS.F ht⟩) hS.2.2 d_Md_isRight_38
set_option maxHeartbeats 4000000 in
set_option maxRecDepth 100000 in
theorem c_Md_times (l : Launch) (D : va_G) (y t0 t1 t2 t3 t4 t5 : Nat) (c0 c1 c2 c3 c4 c5 : ClassId) (ma ha ex ey dx dy : Int32) (ab be : Int64) (ri : Int32) (o1 o2 : Int64) (f0 f1 f2 f3 f4 f5 : Nat → Int32) (wl : Nat → Option Q4) (hY : rf_YF wl f0 f1 f2 f3 f4) (i nn : Int32) (sz : Nat) : Met l y_Md_times (.code y_Md_times b_Md_times 4 (some (.long)) :: BIG) { frames := 5, cells := 0, slots := 0, locals := 200 } (rf_Pc D (y_t c0 c1 c2 c3 c4 c5) [.ref y, .int i, .int nn] (fun h => h.size = sz ∧ va_P D vwCl (y_7 y t0 t1 t2 t3 t4 t5 c0 c1 c2 c3 c4 c5 ma ha ex ey dx dy ab be ri o1 o2 f0 f1 f2 f3 f4 f5) h ∧ va_D (fun _ => True) (y_7 y t0 t1 t2 t3 t4 t5 c0 c1 c2 c3 c4 c5 ma ha ex ey dx dy ab be ri o1 o2 f0 f1 f2 f3 f4 f5))) (va_Ql (S := Nat × (Nat → Nat) × Int64 × Int64 × Int32 × Int64 × Int64 × (Nat → Int32)) (fun r u => (∃ k w, k < u.1 ∧ i = nI k ∧ wl (u.2.1 k) = some w ∧ m_btw nn 0 1000000 ∧ r = nn.toInt64 * k_up w (ex, ey, dx, dy) / k_dn w (ex, ey, dx, dy) ∧ rf_PG wl ha (ex, ey, dx, dy) u.1 u.2.1 u.2.2.2.2.2.2.2) ∨ (((i < 0 ∨ (rf_PG wl ha (ex, ey, dx, dy) u.1 u.2.1 u.2.2.2.2.2.2.2 ∧ ∀ k, k < u.1 → ¬ i = nI k)) ∨ ¬ m_btw nn 0 1000000) ∧ r = -1)) (fun u t => va_P D vwCl (y_7 y t0 t1 t2 t3 t4 t5 c0 c1 c2 c3 c4 c5 ma ha ex ey dx dy u.2.2.1 u.2.2.2.1 u.2.2.2.2.1 u.2.2.2.2.2.1 u.2.2.2.2.2.2.1 f0 f1 f2 f3 f4 u.2.2.2.2.2.2.2) t.heap ∧ va_D (va_A (y_7 y t0 t1 t2 t3 t4 t5 c0 c1 c2 c3 c4 c5 ma ha ex ey dx dy ab be ri o1 o2 f0 f1 f2 f3 f4 f5) sz) (y_7 y t0 t1 t2 t3 t4 t5 c0 c1 c2 c3 c4 c5 ma ha ex ey dx dy u.2.2.1 u.2.2.2.1 u.2.2.2.2.1 u.2.2.2.2.2.1 u.2.2.2.2.2.2.1 f0 f1 f2 f3 f4 u.2.2.2.2.2.2.2)) (va_A (y_7 y t0 t1 t2 t3 t4 t5 c0 c1 c2 c3 c4 c5 ma ha ex ey dx dy ab be ri o1 o2 f0 f1 f2 f3 f4 f5) sz)) 0 0 (va_A (y_7 y t0 t1 t2 t3 t4 t5 c0 c1 c2 c3 c4 c5 ma ha ex ey dx dy ab be ri o1 o2 f0 f1 f2 f3 f4 f5) sz) := by
  refine Met.ofW (cc := b_Md_times) (maxL := 4) (ret := (some (.long))) (by decide) rfl ?_
  intro p e s m args below meth c s₁ B hml hv
  obtain ⟨rfl, hE, hP⟩ := hv
  have hx := B.exec
  have hb := B.bytes
  have hr := B.returns
  have hts : ∀ w ∈ BIG, w.before [.ref y, .int i, .int nn].toArray s = true := fun w h => atoms_spec (ws := .code y_Md_times b_Md_times 4 (some (.long)) :: BIG) B.pre w (List.mem_cons_of_mem _ h)
  have hown : s.vm.findClass "RayFieldModel" = some m.cls := findClass_of_methodNamed B.named
  have hlocks := B.notSynchronized
  have hK := hE.2
  have S0 : CallFix p m c b_Md_times 4 s [.ref y, .int i, .int nn].toArray BIG "RayFieldModel" := ⟨hx, hb, hml, hown, hts⟩
  have hl := lv_entry ([.ref y, .int i, .int nn]) (n := 4) (Nat.le_of_ble_eq_true rfl)
  rw [lg_entry_eq]
  generalize (lg_sl ([.ref y, .int i, .int nn]) ++ List.replicate (4 - (lg_sl ([.ref y, .int i, .int nn])).length) Slot.unset).toArray = ls at hl ⊢
  have hl : lv_has ls 4 [(0, .ref y), (1, .int i), (2, .int nn)] := hl
  obtain ⟨hsz, hP, hD0⟩ := hP
  subst hsz
  have hD := hD0.self (sz := s.heap.size)
  generalize hAe : va_A (y_7 y t0 t1 t2 t3 t4 t5 c0 c1 c2 c3 c4 c5 ma ha ex ey dx dy ab be ri o1 o2 f0 f1 f2 f3 f4 f5) s.heap.size = A at hD ⊢
  have hA : ∀ q : Nat, s.heap.size ≤ q → A q := fun q h => by rw [← hAe]; exact Or.inr h
  obtain ⟨H, hH⟩ : ∃ H : Heap, H = s.heap := ⟨_, rfl⟩
  refine rf_heap hH ?_
  have hS : va_S A s.heap H [] := by rw [hH]; exact va_S.rf
  have hP : va_P D vwCl (y_7 y t0 t1 t2 t3 t4 t5 c0 c1 c2 c3 c4 c5 ma ha ex ey dx dy ab be ri o1 o2 f0 f1 f2 f3 f4 f5) H := by rw [hH]; exact hP
  refine lv_aload_n hx hb d_Md_times_0 rfl (lv_at hl 0 rfl) ?_
  refine lv_iconst (v := 0) hx hb d_Md_times_1 (by decide) ?_
  refine va_put (D := D) (ci := 4) (v := .int 0) (ty := .int) (C := "RayFieldModel") (T := F_Md) (N := 18) hx hb hts in_Md t_Md tok_Md nn_Md hown hK hP hD hS 0 rfl rfl 0 (by decide) (hts _ w_280) (fun _ h9 => h9) rfl (by decide +kernel) rfl rfl (Nat.le_of_ble_eq_true rfl) d_Md_times_2 (fun H locs hP hD hS => ?_)
  have hP : va_P D vwCl (y_7 y t0 t1 t2 t3 t4 t5 c0 c1 c2 c3 c4 c5 ma ha ex ey dx dy ab be ri o1 o2 f0 f1 f2 f3 f4 f5) H := hP
  have hD : va_D A (y_7 y t0 t1 t2 t3 t4 t5 c0 c1 c2 c3 c4 c5 ma ha ex ey dx dy ab be ri o1 o2 f0 f1 f2 f3 f4 f5) := hD
  refine lv_aload_n hx hb d_Md_times_5 rfl (lv_at hl 0 rfl) ?_
  refine lv_iload_n hx hb d_Md_times_6 rfl (lv_at hl 1 rfl) ?_
  have hFc := rf_freeW hD hS hA
  refine va_calli (rf_runV (As := [.int i]) (rest := []) S0 ml_Md_103 (c_Md_isMet l D y t0 t1 t2 t3 t4 t5 c0 c1 c2 c3 c4 c5 ma ha ex ey dx dy ab be ri o1 o2 f0 f1 f2 f3 f4 f5 wl hY i H.size) hE (va_recv hK hP (ci := 4) (q0 := 0) rfl rfl) ⟨rfl, hP, hD.weaken (fun _ _ _ _ => trivial)⟩ ⟨rfl, rfl, Nat.le_of_ble_eq_true rfl, Nat.le_of_ble_eq_true rfl⟩ rfl hl.1 rfl (Nat.le_of_ble_eq_true rfl) d_Md_times_7 ⟨Nat.zero_le _, Nat.zero_le _⟩) hS (fun q _ h => hFc q h) hFc (fun rm u t H1 locs ht hvm hu hB hz1 hk1 hS => ?_)
  obtain ⟨hP, hD1⟩ := hB
  rw [ht] at hP
  have hD := hD1.weaken (fun k q _ h => hFc q.1 h)
  generalize H1 = H at hP hS ⊢
  obtain ⟨n, g, ab1, be1, ri1, p1, p2, f51⟩ := u
  dsimp only at hu hP hD
  have hP : va_P D vwCl (y_7 y t0 t1 t2 t3 t4 t5 c0 c1 c2 c3 c4 c5 ma ha ex ey dx dy ab1 be1 ri1 p1 p2 f0 f1 f2 f3 f4 f51) H := hP
  have hD : va_D A (y_7 y t0 t1 t2 t3 t4 t5 c0 c1 c2 c3 c4 c5 ma ha ex ey dx dy ab1 be1 ri1 p1 p2 f0 f1 f2 f3 f4 f51) := hD
  have hcase : (rm = 0 ∧ (i < 0 ∨ (rf_PG wl ha (ex, ey, dx, dy) n g f51 ∧ ∀ k, k < n → ¬ i = nI k))) ∨ (rm = 1 ∧ rf_PG wl ha (ex, ey, dx, dy) n g f51 ∧ ∃ k, k < n ∧ i = nI k) := by
    rcases hu with ⟨h1, h2⟩ | ⟨h1, h2 | h2⟩
    · exact Or.inl ⟨h2, Or.inl h1⟩
    · exact Or.inr ⟨h2.1, h1, h2.2⟩
    · exact Or.inl ⟨h2.1, Or.inr ⟨h1, fun k hk ek => h2.2 ⟨k, hk, ek⟩⟩⟩
  rcases hcase with ⟨erm, hno⟩ | ⟨erm, hpg, k, hk, ek⟩
  · subst erm
    refine lv_if_eq (tgt := 23) hx hb d_Md_times_10 (by decide) (fun c_1 => ?_) (fun c_1 => absurd rfl c_1)
    refine lv_ldc2 (v := (-1)) hx hb hown (hts _ w_416) d_Md_times_23 ?_
    exact W.lret (v := (-1)) hx hb hr (fun t ht hW => ⟨⟨_, (n, g, ab1, be1, ri1, p1, p2, f51), rfl, (Or.inr ⟨Or.inl hno, rfl⟩), by rw [ht]; exact hP, hD⟩, hS.F ht⟩) hS.2.2 d_Md_times_26
  · subst erm
    subst ek
    obtain ⟨hfk, hg64, hkm⟩ := rf_PG.at hpg hk
    obtain ⟨hwk, hmk⟩ := rf_kmt.get hY hg64 hkm
    have hn64 := hpg.1
    refine lv_if_eq (tgt := 23) hx hb d_Md_times_10 (by decide) (fun c_2 => absurd c_2 (by decide)) (fun c_2 => ?_)
    refine lv_iload_n hx hb d_Md_times_13 rfl (lv_at hl 2 rfl) ?_
    refine lv_if_lt (tgt := 23) hx hb d_Md_times_14 (by decide) (fun c_3 => ?_) (fun c_3 => ?_)
    · refine lv_ldc2 (v := (-1)) hx hb hown (hts _ w_416) d_Md_times_23 ?_
      exact W.lret (v := (-1)) hx hb hr (fun t ht hW => ⟨⟨_, (n, g, ab1, be1, ri1, p1, p2, f51), rfl, (Or.inr ⟨Or.inr (fun h => absurd h.1 (Int32.not_le.mpr c_3)), rfl⟩), by rw [ht]; exact hP, hD⟩, hS.F ht⟩) hS.2.2 d_Md_times_26
    · refine lv_iload_n hx hb d_Md_times_17 rfl (lv_at hl 2 rfl) ?_
      refine lv_ldc (v := 1000000) hx hb hown (hts _ w_415) d_Md_times_18 ?_
      refine lv_icmp_le (tgt := 27) hx hb d_Md_times_20 (by decide) (fun c_4 => ?_) (fun c_4 => ?_)
      · refine lv_aload_n hx hb d_Md_times_27 rfl (lv_at hl 0 rfl) ?_
        refine lv_aload_n hx hb d_Md_times_28 rfl (lv_at hl 0 rfl) ?_
        refine va_get (D := D) (ci := 4) (v := .ref t5) (C := "RayFieldModel") (T := F_Md) (N := 18) hx hb hts in_Md hown hK hP 0 rfl rfl 17 (by decide) (hts _ w_297) (fun _ h9 => h9) rfl d_Md_times_29 ?_
        refine lv_iload_n hx hb d_Md_times_32 rfl (lv_at hl 1 rfl) ?_
        refine rf_iald hx hb hK hP 6 5 rfl rfl (show k < 64 by omega) (by decide) d_Md_times_33 ?_
        rw [hfk]
        have hFc := rf_freeW hD hS hA
        refine va_calli (rf_runV (As := [.int (nI (g k))]) (rest := []) S0 ml_Md_94 (c_Md_meets l D y t0 t1 t2 t3 t4 t5 c0 c1 c2 c3 c4 c5 ma ha ex ey dx dy ab1 be1 ri1 p1 p2 f0 f1 f2 f3 f4 f51 (g k) hg64 H.size) hE (va_recv hK hP (ci := 4) (q0 := 0) rfl rfl) ⟨rfl, hP, hD.weaken (fun _ _ _ _ => trivial)⟩ ⟨rfl, rfl, Nat.le_of_ble_eq_true rfl, Nat.le_of_ble_eq_true rfl⟩ rfl hl.1 rfl (Nat.le_of_ble_eq_true rfl) d_Md_times_34 ⟨Nat.zero_le _, Nat.zero_le _⟩) hS (fun q _ h => hFc q h) hFc (fun r_5 u t H1 locs ht hvm hm_6 hB hz1 hk1 hS => ?_)
        obtain ⟨hP, hD1⟩ := hB
        rw [ht] at hP
        have hD := hD1.weaken (fun k q _ h => hFc q.1 h)
        generalize H1 = H at hP hS ⊢
        have hP : va_P D vwCl (y_7 y t0 t1 t2 t3 t4 t5 c0 c1 c2 c3 c4 c5 ma ha ex ey dx dy (k_up (f1 (g k), f2 (g k), f3 (g k), f4 (g k)) (ex, ey, dx, dy)) (k_dn (f1 (g k), f2 (g k), f3 (g k), f4 (g k)) (ex, ey, dx, dy)) (k_ri (f1 (g k), f2 (g k), f3 (g k), f4 (g k)) (ex, ey, dx, dy)) (m_a (f1 (g k), f2 (g k), f3 (g k), f4 (g k)) (ex, ey, dx, dy)) (m_b (f1 (g k), f2 (g k), f3 (g k), f4 (g k)) (ex, ey, dx, dy)) f0 f1 f2 f3 f4 f51) H := hP
        have hD : va_D A (y_7 y t0 t1 t2 t3 t4 t5 c0 c1 c2 c3 c4 c5 ma ha ex ey dx dy (k_up (f1 (g k), f2 (g k), f3 (g k), f4 (g k)) (ex, ey, dx, dy)) (k_dn (f1 (g k), f2 (g k), f3 (g k), f4 (g k)) (ex, ey, dx, dy)) (k_ri (f1 (g k), f2 (g k), f3 (g k), f4 (g k)) (ex, ey, dx, dy)) (m_a (f1 (g k), f2 (g k), f3 (g k), f4 (g k)) (ex, ey, dx, dy)) (m_b (f1 (g k), f2 (g k), f3 (g k), f4 (g k)) (ex, ey, dx, dy)) f0 f1 f2 f3 f4 f51) := hD
        refine lv_istore_n (lv' := [(3, .int r_5), (0, .ref y), (1, .int (nI k)), (2, .int nn)]) hx hb d_Md_times_37 rfl hl (by decide) rfl (fun ls hl => ?_)
        refine lv_iload_n hx hb d_Md_times_38 rfl (lv_at hl 3 rfl) ?_
        refine lv_i2l hx hb d_Md_times_39 rfl ?_
        refine lv_aload_n hx hb d_Md_times_40 rfl (lv_at hl 1 rfl) ?_
        refine va_get (D := D) (ci := 4) (v := .long (k_up (f1 (g k), f2 (g k), f3 (g k), f4 (g k)) (ex, ey, dx, dy))) (C := "RayFieldModel") (T := F_Md) (N := 18) hx hb hts in_Md hown hK hP 0 rfl rfl 12 (by decide) (hts _ w_292) (fun _ h9 => h9) rfl d_Md_times_41 ?_
        refine lv_lmul hx hb d_Md_times_44 ?_
        refine lv_aload_n hx hb d_Md_times_45 rfl (lv_at hl 1 rfl) ?_
        refine va_get (D := D) (ci := 4) (v := .long (k_dn (f1 (g k), f2 (g k), f3 (g k), f4 (g k)) (ex, ey, dx, dy))) (C := "RayFieldModel") (T := F_Md) (N := 18) hx hb hts in_Md hown hK hP 0 rfl rfl 13 (by decide) (hts _ w_293) (fun _ h9 => h9) rfl d_Md_times_46 ?_
        refine lv_ldiv hx hb d_Md_times_49 hmk.dn ?_
        exact W.lret (v := (nn.toInt64 * (k_up (f1 (g k), f2 (g k), f3 (g k), f4 (g k)) (ex, ey, dx, dy))) / (k_dn (f1 (g k), f2 (g k), f3 (g k), f4 (g k)) (ex, ey, dx, dy))) hx hb hr (fun t ht hW => ⟨⟨_, (n, g, k_up (f1 (g k), f2 (g k), f3 (g k), f4 (g k)) (ex, ey, dx, dy), k_dn (f1 (g k), f2 (g k), f3 (g k), f4 (g k)) (ex, ey, dx, dy), k_ri (f1 (g k), f2 (g k), f3 (g k), f4 (g k)) (ex, ey, dx, dy), m_a (f1 (g k), f2 (g k), f3 (g k), f4 (g k)) (ex, ey, dx, dy), m_b (f1 (g k), f2 (g k), f3 (g k), f4 (g k)) (ex, ey, dx, dy), f51), rfl, (Or.inl ⟨k, _, hk, rfl, hwk, ⟨Int32.not_lt.mp c_3, c_4⟩, rfl, hpg⟩), by rw [ht]; exact hP, hD⟩, hS.F ht⟩) hS.2.2 d_Md_times_50
      · refine lv_ldc2 (v := (-1)) hx hb hown (hts _ w_416) d_Md_times_23 ?_
        exact W.lret (v := (-1)) hx hb hr (fun t ht hW => ⟨⟨_, (n, g, ab1, be1, ri1, p1, p2, f51), rfl, (Or.inr ⟨Or.inr (fun h => c_4 h.2), rfl⟩), by rw [ht]; exact hP, hD⟩, hS.F ht⟩) hS.2.2 d_Md_times_26
set_option maxHeartbeats 4000000 in
set_option maxRecDepth 100000 in
theorem c_Md_along (l : Launch) (D : va_G) (y t0 t1 t2 t3 t4 t5 : Nat) (c0 c1 c2 c3 c4 c5 : ClassId) (ma ha ex ey dx dy : Int32) (ab be : Int64) (ri : Int32) (o1 o2 : Int64) (f0 f1 f2 f3 f4 f5 : Nat → Int32) (wl : Nat → Option Q4) (hY : rf_YF wl f0 f1 f2 f3 f4) (i : Int32) (sz : Nat) : Met l y_Md_along (.code y_Md_along b_Md_along 3 (some (.int)) :: BIG) { frames := 5, cells := 0, slots := 0, locals := 200 } (rf_Pc D (y_t c0 c1 c2 c3 c4 c5) [.ref y, .int i] (fun h => h.size = sz ∧ va_P D vwCl (y_7 y t0 t1 t2 t3 t4 t5 c0 c1 c2 c3 c4 c5 ma ha ex ey dx dy ab be ri o1 o2 f0 f1 f2 f3 f4 f5) h ∧ va_D (fun _ => True) (y_7 y t0 t1 t2 t3 t4 t5 c0 c1 c2 c3 c4 c5 ma ha ex ey dx dy ab be ri o1 o2 f0 f1 f2 f3 f4 f5))) (va_Qi (S := Nat × (Nat → Nat) × Int64 × Int64 × Int32 × Int64 × Int64 × (Nat → Int32)) (fun r u => (∃ k w, k < u.1 ∧ i = nI k ∧ wl (u.2.1 k) = some w ∧ r = (k_down (1024 * m_a w (ex, ey, dx, dy)) (m_a w (ex, ey, dx, dy) - m_b w (ex, ey, dx, dy))).toInt32 ∧ rf_PG wl ha (ex, ey, dx, dy) u.1 u.2.1 u.2.2.2.2.2.2.2) ∨ ((i < 0 ∨ (rf_PG wl ha (ex, ey, dx, dy) u.1 u.2.1 u.2.2.2.2.2.2.2 ∧ ∀ k, k < u.1 → ¬ i = nI k)) ∧ r = -1)) (fun u t => va_P D vwCl (y_7 y t0 t1 t2 t3 t4 t5 c0 c1 c2 c3 c4 c5 ma ha ex ey dx dy u.2.2.1 u.2.2.2.1 u.2.2.2.2.1 u.2.2.2.2.2.1 u.2.2.2.2.2.2.1 f0 f1 f2 f3 f4 u.2.2.2.2.2.2.2) t.heap ∧ va_D (va_A (y_7 y t0 t1 t2 t3 t4 t5 c0 c1 c2 c3 c4 c5 ma ha ex ey dx dy ab be ri o1 o2 f0 f1 f2 f3 f4 f5) sz) (y_7 y t0 t1 t2 t3 t4 t5 c0 c1 c2 c3 c4 c5 ma ha ex ey dx dy u.2.2.1 u.2.2.2.1 u.2.2.2.2.1 u.2.2.2.2.2.1 u.2.2.2.2.2.2.1 f0 f1 f2 f3 f4 u.2.2.2.2.2.2.2)) (va_A (y_7 y t0 t1 t2 t3 t4 t5 c0 c1 c2 c3 c4 c5 ma ha ex ey dx dy ab be ri o1 o2 f0 f1 f2 f3 f4 f5) sz)) 0 0 (va_A (y_7 y t0 t1 t2 t3 t4 t5 c0 c1 c2 c3 c4 c5 ma ha ex ey dx dy ab be ri o1 o2 f0 f1 f2 f3 f4 f5) sz) := by
  refine Met.ofW (cc := b_Md_along) (maxL := 3) (ret := (some (.int))) (by decide) rfl ?_
  intro p e s m args below meth c s₁ B hml hv
  obtain ⟨rfl, hE, hP⟩ := hv
  have hx := B.exec
  have hb := B.bytes
  have hr := B.returns
  have hts : ∀ w ∈ BIG, w.before [.ref y, .int i].toArray s = true := fun w h => atoms_spec (ws := .code y_Md_along b_Md_along 3 (some (.int)) :: BIG) B.pre w (List.mem_cons_of_mem _ h)
  have hown : s.vm.findClass "RayFieldModel" = some m.cls := findClass_of_methodNamed B.named
  have hlocks := B.notSynchronized
  have hK := hE.2
  have S0 : CallFix p m c b_Md_along 3 s [.ref y, .int i].toArray BIG "RayFieldModel" := ⟨hx, hb, hml, hown, hts⟩
  have hl := lv_entry ([.ref y, .int i]) (n := 3) (Nat.le_of_ble_eq_true rfl)
  rw [lg_entry_eq]
  generalize (lg_sl ([.ref y, .int i]) ++ List.replicate (3 - (lg_sl ([.ref y, .int i])).length) Slot.unset).toArray = ls at hl ⊢
  have hl : lv_has ls 3 [(0, .ref y), (1, .int i)] := hl
  obtain ⟨hsz, hP, hD0⟩ := hP
  subst hsz
  have hD := hD0.self (sz := s.heap.size)
  generalize hAe : va_A (y_7 y t0 t1 t2 t3 t4 t5 c0 c1 c2 c3 c4 c5 ma ha ex ey dx dy ab be ri o1 o2 f0 f1 f2 f3 f4 f5) s.heap.size = A at hD ⊢
  have hA : ∀ q : Nat, s.heap.size ≤ q → A q := fun q h => by rw [← hAe]; exact Or.inr h
  obtain ⟨H, hH⟩ : ∃ H : Heap, H = s.heap := ⟨_, rfl⟩
  refine rf_heap hH ?_
  have hS : va_S A s.heap H [] := by rw [hH]; exact va_S.rf
  have hP : va_P D vwCl (y_7 y t0 t1 t2 t3 t4 t5 c0 c1 c2 c3 c4 c5 ma ha ex ey dx dy ab be ri o1 o2 f0 f1 f2 f3 f4 f5) H := by rw [hH]; exact hP
  refine lv_aload_n hx hb d_Md_along_0 rfl (lv_at hl 0 rfl) ?_
  refine lv_iconst (v := 0) hx hb d_Md_along_1 (by decide) ?_
  refine va_put (D := D) (ci := 4) (v := .int 0) (ty := .int) (C := "RayFieldModel") (T := F_Md) (N := 18) hx hb hts in_Md t_Md tok_Md nn_Md hown hK hP hD hS 0 rfl rfl 0 (by decide) (hts _ w_280) (fun _ h9 => h9) rfl (by decide +kernel) rfl rfl (Nat.le_of_ble_eq_true rfl) d_Md_along_2 (fun H locs hP hD hS => ?_)
  have hP : va_P D vwCl (y_7 y t0 t1 t2 t3 t4 t5 c0 c1 c2 c3 c4 c5 ma ha ex ey dx dy ab be ri o1 o2 f0 f1 f2 f3 f4 f5) H := hP
  have hD : va_D A (y_7 y t0 t1 t2 t3 t4 t5 c0 c1 c2 c3 c4 c5 ma ha ex ey dx dy ab be ri o1 o2 f0 f1 f2 f3 f4 f5) := hD
  refine lv_aload_n hx hb d_Md_along_5 rfl (lv_at hl 0 rfl) ?_
  refine lv_iload_n hx hb d_Md_along_6 rfl (lv_at hl 1 rfl) ?_
  have hFc := rf_freeW hD hS hA
  refine va_calli (rf_runV (As := [.int i]) (rest := []) S0 ml_Md_103 (c_Md_isMet l D y t0 t1 t2 t3 t4 t5 c0 c1 c2 c3 c4 c5 ma ha ex ey dx dy ab be ri o1 o2 f0 f1 f2 f3 f4 f5 wl hY i H.size) hE (va_recv hK hP (ci := 4) (q0 := 0) rfl rfl) ⟨rfl, hP, hD.weaken (fun _ _ _ _ => trivial)⟩ ⟨rfl, rfl, Nat.le_of_ble_eq_true rfl, Nat.le_of_ble_eq_true rfl⟩ rfl hl.1 rfl (Nat.le_of_ble_eq_true rfl) d_Md_along_7 ⟨Nat.zero_le _, Nat.zero_le _⟩) hS (fun q _ h => hFc q h) hFc (fun rm u t H1 locs ht hvm hu hB hz1 hk1 hS => ?_)
  obtain ⟨hP, hD1⟩ := hB
  rw [ht] at hP
  have hD := hD1.weaken (fun k q _ h => hFc q.1 h)
  generalize H1 = H at hP hS ⊢
  obtain ⟨n, g, ab1, be1, ri1, p1, p2, f51⟩ := u
  dsimp only at hu hP hD
  have hP : va_P D vwCl (y_7 y t0 t1 t2 t3 t4 t5 c0 c1 c2 c3 c4 c5 ma ha ex ey dx dy ab1 be1 ri1 p1 p2 f0 f1 f2 f3 f4 f51) H := hP
  have hD : va_D A (y_7 y t0 t1 t2 t3 t4 t5 c0 c1 c2 c3 c4 c5 ma ha ex ey dx dy ab1 be1 ri1 p1 p2 f0 f1 f2 f3 f4 f51) := hD
  have hcase : (rm = 0 ∧ (i < 0 ∨ (rf_PG wl ha (ex, ey, dx, dy) n g f51 ∧ ∀ k, k < n → ¬ i = nI k))) ∨ (rm = 1 ∧ rf_PG wl ha (ex, ey, dx, dy) n g f51 ∧ ∃ k, k < n ∧ i = nI k) := by
    rcases hu with ⟨h1, h2⟩ | ⟨h1, h2 | h2⟩
    · exact Or.inl ⟨h2, Or.inl h1⟩
    · exact Or.inr ⟨h2.1, h1, h2.2⟩
    · exact Or.inl ⟨h2.1, Or.inr ⟨h1, fun k hk ek => h2.2 ⟨k, hk, ek⟩⟩⟩
  rcases hcase with ⟨erm, hno⟩ | ⟨erm, hpg, k, hk, ek⟩
  · subst erm
    refine lv_if_ne (tgt := 15) hx hb d_Md_along_10 (by decide) (fun c_1 => absurd rfl c_1) (fun c_1 => ?_)
    refine lv_iconst (v := -1) hx hb d_Md_along_13 (by decide) ?_
    exact W.iret (v := (-1)) hx hb hr (fun t ht hW => ⟨⟨_, (n, g, ab1, be1, ri1, p1, p2, f51), rfl, (Or.inr ⟨hno, rfl⟩), by rw [ht]; exact hP, hD⟩, hS.F ht⟩) hS.2.2 d_Md_along_14
  · subst erm
    subst ek
    obtain ⟨hfk, hg64, hkm⟩ := rf_PG.at hpg hk
    obtain ⟨hwk, hmk⟩ := rf_kmt.get hY hg64 hkm
    have hn64 := hpg.1
    refine lv_if_ne (tgt := 15) hx hb d_Md_along_10 (by decide) (fun c_2 => ?_) (fun c_2 => absurd c_2 (by decide))
    refine lv_aload_n hx hb d_Md_along_15 rfl (lv_at hl 0 rfl) ?_
    refine lv_aload_n hx hb d_Md_along_16 rfl (lv_at hl 0 rfl) ?_
    refine va_get (D := D) (ci := 4) (v := .ref t5) (C := "RayFieldModel") (T := F_Md) (N := 18) hx hb hts in_Md hown hK hP 0 rfl rfl 17 (by decide) (hts _ w_297) (fun _ h9 => h9) rfl d_Md_along_17 ?_
    refine lv_iload_n hx hb d_Md_along_20 rfl (lv_at hl 1 rfl) ?_
    refine rf_iald hx hb hK hP 6 5 rfl rfl (show k < 64 by omega) (by decide) d_Md_along_21 ?_
    rw [hfk]
    have hFc := rf_freeW hD hS hA
    refine va_calli (rf_runV (As := [.int (nI (g k))]) (rest := []) S0 ml_Md_94 (c_Md_meets l D y t0 t1 t2 t3 t4 t5 c0 c1 c2 c3 c4 c5 ma ha ex ey dx dy ab1 be1 ri1 p1 p2 f0 f1 f2 f3 f4 f51 (g k) hg64 H.size) hE (va_recv hK hP (ci := 4) (q0 := 0) rfl rfl) ⟨rfl, hP, hD.weaken (fun _ _ _ _ => trivial)⟩ ⟨rfl, rfl, Nat.le_of_ble_eq_true rfl, Nat.le_of_ble_eq_true rfl⟩ rfl hl.1 rfl (Nat.le_of_ble_eq_true rfl) d_Md_along_22 ⟨Nat.zero_le _, Nat.zero_le _⟩) hS (fun q _ h => hFc q h) hFc (fun r_3 u t H1 locs ht hvm hm_4 hB hz1 hk1 hS => ?_)
    obtain ⟨hP, hD1⟩ := hB
    rw [ht] at hP
    have hD := hD1.weaken (fun k q _ h => hFc q.1 h)
    generalize H1 = H at hP hS ⊢
    have hP : va_P D vwCl (y_7 y t0 t1 t2 t3 t4 t5 c0 c1 c2 c3 c4 c5 ma ha ex ey dx dy (k_up (f1 (g k), f2 (g k), f3 (g k), f4 (g k)) (ex, ey, dx, dy)) (k_dn (f1 (g k), f2 (g k), f3 (g k), f4 (g k)) (ex, ey, dx, dy)) (k_ri (f1 (g k), f2 (g k), f3 (g k), f4 (g k)) (ex, ey, dx, dy)) (m_a (f1 (g k), f2 (g k), f3 (g k), f4 (g k)) (ex, ey, dx, dy)) (m_b (f1 (g k), f2 (g k), f3 (g k), f4 (g k)) (ex, ey, dx, dy)) f0 f1 f2 f3 f4 f51) H := hP
    have hD : va_D A (y_7 y t0 t1 t2 t3 t4 t5 c0 c1 c2 c3 c4 c5 ma ha ex ey dx dy (k_up (f1 (g k), f2 (g k), f3 (g k), f4 (g k)) (ex, ey, dx, dy)) (k_dn (f1 (g k), f2 (g k), f3 (g k), f4 (g k)) (ex, ey, dx, dy)) (k_ri (f1 (g k), f2 (g k), f3 (g k), f4 (g k)) (ex, ey, dx, dy)) (m_a (f1 (g k), f2 (g k), f3 (g k), f4 (g k)) (ex, ey, dx, dy)) (m_b (f1 (g k), f2 (g k), f3 (g k), f4 (g k)) (ex, ey, dx, dy)) f0 f1 f2 f3 f4 f51) := hD
    refine lv_istore_n (lv' := [(2, .int r_3), (0, .ref y), (1, .int (nI k))]) hx hb d_Md_along_25 rfl hl (by decide) rfl (fun ls hl => ?_)
    refine lv_ldc2 (v := 1024) hx hb hown (hts _ w_421) d_Md_along_26 ?_
    refine lv_aload_n hx hb d_Md_along_29 rfl (lv_at hl 1 rfl) ?_
    refine va_get (D := D) (ci := 4) (v := .long (m_a (f1 (g k), f2 (g k), f3 (g k), f4 (g k)) (ex, ey, dx, dy))) (C := "RayFieldModel") (T := F_Md) (N := 18) hx hb hts in_Md hown hK hP 0 rfl rfl 15 (by decide) (hts _ w_295) (fun _ h9 => h9) rfl d_Md_along_30 ?_
    refine lv_lmul hx hb d_Md_along_33 ?_
    refine lv_aload_n hx hb d_Md_along_34 rfl (lv_at hl 1 rfl) ?_
    refine va_get (D := D) (ci := 4) (v := .long (m_a (f1 (g k), f2 (g k), f3 (g k), f4 (g k)) (ex, ey, dx, dy))) (C := "RayFieldModel") (T := F_Md) (N := 18) hx hb hts in_Md hown hK hP 0 rfl rfl 15 (by decide) (hts _ w_295) (fun _ h9 => h9) rfl d_Md_along_35 ?_
    refine lv_aload_n hx hb d_Md_along_38 rfl (lv_at hl 1 rfl) ?_
    refine va_get (D := D) (ci := 4) (v := .long (m_b (f1 (g k), f2 (g k), f3 (g k), f4 (g k)) (ex, ey, dx, dy))) (C := "RayFieldModel") (T := F_Md) (N := 18) hx hb hts in_Md hown hK hP 0 rfl rfl 16 (by decide) (hts _ w_296) (fun _ h9 => h9) rfl d_Md_along_39 ?_
    refine lv_lsub hx hb d_Md_along_42 ?_
    refine vp_callSl (va_Run.run (rf_runS (As := [.long (1024 * (m_a (f1 (g k), f2 (g k), f3 (g k), f4 (g k)) (ex, ey, dx, dy))), .long ((m_a (f1 (g k), f2 (g k), f3 (g k), f4 (g k)) (ex, ey, dx, dy)) - (m_b (f1 (g k), f2 (g k), f3 (g k), f4 (g k)) (ex, ey, dx, dy)))]) (rest := []) S0 ml_Md_111 (c_Md_down l D (y_t c0 c1 c2 c3 c4 c5) (1024 * (m_a (f1 (g k), f2 (g k), f3 (g k), f4 (g k)) (ex, ey, dx, dy))) ((m_a (f1 (g k), f2 (g k), f3 (g k), f4 (g k)) (ex, ey, dx, dy)) - (m_b (f1 (g k), f2 (g k), f3 (g k), f4 (g k)) (ex, ey, dx, dy))) hmk.ab) hE trivial ⟨rfl, rfl, Nat.le_of_ble_eq_true rfl, Nat.le_of_ble_eq_true rfl⟩ rfl hl.1 rfl (Nat.le_of_ble_eq_true rfl) d_Md_along_43 ⟨Nat.zero_le _, Nat.zero_le _⟩)) (fun r_5 h_6 => ?_)
    subst h_6
    refine lv_l2i hx hb d_Md_along_46 rfl ?_
    exact W.iret (v := (k_down (1024 * (m_a (f1 (g k), f2 (g k), f3 (g k), f4 (g k)) (ex, ey, dx, dy))) ((m_a (f1 (g k), f2 (g k), f3 (g k), f4 (g k)) (ex, ey, dx, dy)) - (m_b (f1 (g k), f2 (g k), f3 (g k), f4 (g k)) (ex, ey, dx, dy)))).toInt32) hx hb hr (fun t ht hW => ⟨⟨_, (n, g, k_up (f1 (g k), f2 (g k), f3 (g k), f4 (g k)) (ex, ey, dx, dy), k_dn (f1 (g k), f2 (g k), f3 (g k), f4 (g k)) (ex, ey, dx, dy), k_ri (f1 (g k), f2 (g k), f3 (g k), f4 (g k)) (ex, ey, dx, dy), m_a (f1 (g k), f2 (g k), f3 (g k), f4 (g k)) (ex, ey, dx, dy), m_b (f1 (g k), f2 (g k), f3 (g k), f4 (g k)) (ex, ey, dx, dy), f51), rfl, (Or.inl ⟨k, _, hk, rfl, hwk, rfl, hpg⟩), by rw [ht]; exact hP, hD⟩, hS.F ht⟩) hS.2.2 d_Md_along_47
