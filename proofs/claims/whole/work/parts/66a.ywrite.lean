set_option maxHeartbeats 4000000 in
set_option maxRecDepth 100000 in
theorem c_Md_on (l : Launch) (D : va_G) (y t0 t1 t2 t3 t4 t5 : Nat) (c0 c1 c2 c3 c4 c5 : ClassId) (ma ha ex ey dx dy : Int32) (ab be : Int64) (ri : Int32) (o1 o2 : Int64) (f0 f1 f2 f3 f4 f5 : Nat → Int32) (wl : Nat → Option Q4) (hY : rf_YF wl f0 f1 f2 f3 f4) (px py : Int32) (sz : Nat) : Met l y_Md_on (.code y_Md_on b_Md_on 4 (some (.int)) :: BIG) { frames := 2, cells := 0, slots := 0, locals := 80 } (rf_Pc D (y_t c0 c1 c2 c3 c4 c5) [.ref y, .int px, .int py] (fun h => h.size = sz ∧ va_P D vwCl (y_7 y t0 t1 t2 t3 t4 t5 c0 c1 c2 c3 c4 c5 ma ha ex ey dx dy ab be ri o1 o2 f0 f1 f2 f3 f4 f5) h ∧ va_D (fun _ => True) (y_7 y t0 t1 t2 t3 t4 t5 c0 c1 c2 c3 c4 c5 ma ha ex ey dx dy ab be ri o1 o2 f0 f1 f2 f3 f4 f5))) (va_Qi (S := Unit) (fun r _ => (m_place px py 4000 ∧ rf_First (fun k => ∃ w, wl k = some w ∧ k_on w px py) r) ∨ (¬ m_place px py 4000 ∧ r = -1)) (fun u t => va_P D vwCl (y_7 y t0 t1 t2 t3 t4 t5 c0 c1 c2 c3 c4 c5 ma ha ex ey dx dy ab be ri o1 o2 f0 f1 f2 f3 f4 f5) t.heap ∧ va_D (va_A (y_7 y t0 t1 t2 t3 t4 t5 c0 c1 c2 c3 c4 c5 ma ha ex ey dx dy ab be ri o1 o2 f0 f1 f2 f3 f4 f5) sz) (y_7 y t0 t1 t2 t3 t4 t5 c0 c1 c2 c3 c4 c5 ma ha ex ey dx dy ab be ri o1 o2 f0 f1 f2 f3 f4 f5)) (va_A (y_7 y t0 t1 t2 t3 t4 t5 c0 c1 c2 c3 c4 c5 ma ha ex ey dx dy ab be ri o1 o2 f0 f1 f2 f3 f4 f5) sz)) 0 0 (va_A (y_7 y t0 t1 t2 t3 t4 t5 c0 c1 c2 c3 c4 c5 ma ha ex ey dx dy ab be ri o1 o2 f0 f1 f2 f3 f4 f5) sz) := by
  refine Met.ofW (cc := b_Md_on) (maxL := 4) (ret := (some (.int))) (by decide) rfl ?_
  intro p e s m args below meth c s₁ B hml hv
  obtain ⟨rfl, hE, hP⟩ := hv
  have hx := B.exec
  have hb := B.bytes
  have hr := B.returns
  have hts : ∀ w ∈ BIG, w.before [.ref y, .int px, .int py].toArray s = true := fun w h => atoms_spec (ws := .code y_Md_on b_Md_on 4 (some (.int)) :: BIG) B.pre w (List.mem_cons_of_mem _ h)
  have hown : s.vm.findClass "RayFieldModel" = some m.cls := findClass_of_methodNamed B.named
  have hlocks := B.notSynchronized
  have hK := hE.2
  have S0 : CallFix p m c b_Md_on 4 s [.ref y, .int px, .int py].toArray BIG "RayFieldModel" := ⟨hx, hb, hml, hown, hts⟩
  have hl := lv_entry ([.ref y, .int px, .int py]) (n := 4) (Nat.le_of_ble_eq_true rfl)
  rw [lg_entry_eq]
  generalize (lg_sl ([.ref y, .int px, .int py]) ++ List.replicate (4 - (lg_sl ([.ref y, .int px, .int py])).length) Slot.unset).toArray = ls at hl ⊢
  have hl : lv_has ls 4 [(0, .ref y), (1, .int px), (2, .int py)] := hl
  obtain ⟨hsz, hP, hD0⟩ := hP
  subst hsz
  have hD := hD0.self (sz := s.heap.size)
  generalize hAe : va_A (y_7 y t0 t1 t2 t3 t4 t5 c0 c1 c2 c3 c4 c5 ma ha ex ey dx dy ab be ri o1 o2 f0 f1 f2 f3 f4 f5) s.heap.size = A at hD ⊢
  have hA : ∀ q : Nat, s.heap.size ≤ q → A q := fun q h => by rw [← hAe]; exact Or.inr h
  obtain ⟨H, hH⟩ : ∃ H : Heap, H = s.heap := ⟨_, rfl⟩
  refine rf_heap hH ?_
  have hS : va_S A s.heap H [] := by rw [hH]; exact va_S.rf
  have hP : va_P D vwCl (y_7 y t0 t1 t2 t3 t4 t5 c0 c1 c2 c3 c4 c5 ma ha ex ey dx dy ab be ri o1 o2 f0 f1 f2 f3 f4 f5) H := by rw [hH]; exact hP
  refine lv_aload_n hx hb d_Md_on_0 rfl (lv_at hl 0 rfl) ?_
  refine lv_iconst (v := 0) hx hb d_Md_on_1 (by decide) ?_
  refine va_put (D := D) (ci := 4) (v := .int 0) (ty := .int) (C := "RayFieldModel") (T := F_Md) (N := 18) hx hb hts in_Md t_Md tok_Md nn_Md hown hK hP hD hS 0 rfl rfl 0 (by decide) (hts _ w_280) (fun _ h9 => h9) rfl (by decide +kernel) rfl rfl (Nat.le_of_ble_eq_true rfl) d_Md_on_2 (fun H locs hP hD hS => ?_)
  have hP : va_P D vwCl (y_7 y t0 t1 t2 t3 t4 t5 c0 c1 c2 c3 c4 c5 ma ha ex ey dx dy ab be ri o1 o2 f0 f1 f2 f3 f4 f5) H := hP
  have hD : va_D A (y_7 y t0 t1 t2 t3 t4 t5 c0 c1 c2 c3 c4 c5 ma ha ex ey dx dy ab be ri o1 o2 f0 f1 f2 f3 f4 f5) := hD
  refine lv_iconst (v := 0) hx hb d_Md_on_5 (by decide) ?_
  refine rf_topi nI_0.symm ?_
  refine lv_istore_n (lv' := [(3, .int (nI 0)), (0, .ref y), (1, .int px), (2, .int py)]) hx hb d_Md_on_6 rfl hl (by decide) rfl (fun ls hl => ?_)
  by_cases hpl : m_place px py 4000
  · refine rf_loopP 7 64 (fun i ls => lv_has ls 4 [(3, .int (nI i)), (0, .ref y), (1, .int px), (2, .int py)] ∧ (∀ j, j < i → ¬ ∃ w, wl j = some w ∧ k_on w px py)) (fun ls hI => ?_) (fun i ls hi hI hk => ?_) 0 (Nat.zero_le _) ⟨lv_sub hl [0, 1, 2, 3] rfl, fun j hj => absurd hj (Nat.not_lt_zero _)⟩
    · obtain ⟨hl, hJ⟩ := hI
      refine lv_iload_n hx hb d_Md_on_7 rfl (lv_at hl 0 rfl) ?_
      refine lv_bipush (v := 64) hx hb d_Md_on_8 (by decide) ?_
      refine rf_topi rfl ?_
      refine lv_icmp_ge (tgt := 60) hx hb d_Md_on_10 (by decide) (fun c_1 => ?_) (fun c_1 => absurd (nI_le (Nat.le_refl _) (by decide)) c_1)
      refine lv_iconst (v := -1) hx hb d_Md_on_60 (by decide) ?_
      exact W.iret (v := (-1)) hx hb hr (fun t ht hW => ⟨⟨_, (), rfl, (Or.inl ⟨hpl, Or.inr ⟨rfl, hJ⟩⟩), by rw [ht]; exact hP, hD⟩, hS.F ht⟩) hS.2.2 d_Md_on_61
    · obtain ⟨hl, hJ⟩ := hI
      refine lv_iload_n hx hb d_Md_on_7 rfl (lv_at hl 0 rfl) ?_
      refine lv_bipush (v := 64) hx hb d_Md_on_8 (by decide) ?_
      refine rf_topi rfl ?_
      refine lv_icmp_ge (tgt := 60) hx hb d_Md_on_10 (by decide) (fun c_2 => absurd c_2 (nI_ge hi (by decide))) (fun c_2 => ?_)
      refine lv_iload_n hx hb d_Md_on_13 rfl (lv_at hl 2 rfl) ?_
      refine lv_sipush (v := 4000) hx hb d_Md_on_14 (by decide) ?_
      refine vp_callSi (va_Run.run (rf_runS (As := [.int px, .int 4000]) (rest := []) S0 ml_Md_48 (c_Md_isIn l D (y_t c0 c1 c2 c3 c4 c5) px 4000) hE trivial ⟨rfl, rfl, Nat.le_of_ble_eq_true rfl, Nat.le_of_ble_eq_true rfl⟩ rfl hl.1 rfl (Nat.le_of_ble_eq_true rfl) d_Md_on_17 ⟨Nat.zero_le _, Nat.zero_le _⟩)) (fun r_3 h_4 => ?_)
      refine lv_if_eq (tgt := 60) hx hb d_Md_on_20 (by decide) (fun c_5 => absurd hpl.1 (h_4.f c_5)) (fun c_5 => ?_)
      refine lv_iload_n hx hb d_Md_on_23 rfl (lv_at hl 3 rfl) ?_
      refine lv_sipush (v := 4000) hx hb d_Md_on_24 (by decide) ?_
      refine vp_callSi (va_Run.run (rf_runS (As := [.int py, .int 4000]) (rest := []) S0 ml_Md_48 (c_Md_isIn l D (y_t c0 c1 c2 c3 c4 c5) py 4000) hE trivial ⟨rfl, rfl, Nat.le_of_ble_eq_true rfl, Nat.le_of_ble_eq_true rfl⟩ rfl hl.1 rfl (Nat.le_of_ble_eq_true rfl) d_Md_on_27 ⟨Nat.zero_le _, Nat.zero_le _⟩)) (fun r_6 h_7 => ?_)
      refine lv_if_eq (tgt := 60) hx hb d_Md_on_30 (by decide) (fun c_8 => absurd hpl.2 (h_7.f c_8)) (fun c_8 => ?_)
      refine lv_aload_n hx hb d_Md_on_33 rfl (lv_at hl 1 rfl) ?_
      refine va_get (D := D) (ci := 4) (v := .ref t0) (C := "RayFieldModel") (T := F_Md) (N := 18) hx hb hts in_Md hown hK hP 0 rfl rfl 1 (by decide) (hts _ w_281) (fun _ h9 => h9) rfl d_Md_on_34 ?_
      refine lv_iload_n hx hb d_Md_on_37 rfl (lv_at hl 0 rfl) ?_
      refine rf_zald hx hb hK hP 1 0 rfl rfl hi (by decide) d_Md_on_38 ?_
      refine lv_if_eq (tgt := 54) hx hb d_Md_on_39 (by decide) (fun c_9 => ?_) (fun c_9 => ?_)
      · refine lv_iinc (v := (nI (i + 1))) (lv' := [(3, .int (nI (i + 1))), (0, .ref y), (1, .int px), (2, .int py)]) hx hb d_Md_on_54 hl (k := 0) rfl (nI_1 i) (by decide) rfl (fun ls hl => ?_)
        refine lv_goto (tgt := 7) hx hb d_Md_on_57 (by decide) ?_
        exact hk _ ⟨lv_sub hl [0, 1, 2, 3] rfl, lt_s hJ (fun ⟨w0, q1, q2⟩ => by rw [hY.zero hi c_9] at q1; cases q1)⟩
      · refine lv_aload_n hx hb d_Md_on_42 rfl (lv_at hl 1 rfl) ?_
        refine lv_iload_n hx hb d_Md_on_43 rfl (lv_at hl 0 rfl) ?_
        refine lv_iload_n hx hb d_Md_on_44 rfl (lv_at hl 2 rfl) ?_
        refine lv_iload_n hx hb d_Md_on_45 rfl (lv_at hl 3 rfl) ?_
        refine vp_callSi (va_Run.run (rf_runV (As := [.int (nI i), .int px, .int py]) (rest := []) S0 ml_Md_41 (c_Md_isOn l D y t0 t1 t2 t3 t4 t5 c0 c1 c2 c3 c4 c5 ma ha ex ey dx dy ab be ri o1 o2 f0 f1 f2 f3 f4 f5 i hi px py) hE (va_recv hK hP (ci := 4) (q0 := 0) rfl rfl) hP ⟨rfl, rfl, Nat.le_of_ble_eq_true rfl, Nat.le_of_ble_eq_true rfl⟩ rfl hl.1 rfl (Nat.le_of_ble_eq_true rfl) d_Md_on_46 ⟨Nat.zero_le _, Nat.zero_le _⟩)) (fun r_10 h_11 => ?_)
        refine lv_if_eq (tgt := 54) hx hb d_Md_on_49 (by decide) (fun c_12 => ?_) (fun c_12 => ?_)
        · refine lv_iinc (v := (nI (i + 1))) (lv' := [(3, .int (nI (i + 1))), (0, .ref y), (1, .int px), (2, .int py)]) hx hb d_Md_on_54 hl (k := 0) rfl (nI_1 i) (by decide) rfl (fun ls hl => ?_)
          refine lv_goto (tgt := 7) hx hb d_Md_on_57 (by decide) ?_
          exact hk _ ⟨lv_sub hl [0, 1, 2, 3] rfl, lt_s hJ (fun ⟨w0, q1, q2⟩ => by rw [hY.one hi c_9] at q1; cases q1; exact (h_11.f c_12) q2)⟩
        · refine lv_iload_n hx hb d_Md_on_52 rfl (lv_at hl 0 rfl) ?_
          exact W.iret (v := nI i) hx hb hr (fun t ht hW => ⟨⟨_, (), rfl, (Or.inl ⟨hpl, Or.inl ⟨i, hi, rfl, ⟨_, hY.one hi c_9, (h_11.t c_12)⟩, hJ⟩⟩), by rw [ht]; exact hP, hD⟩, hS.F ht⟩) hS.2.2 d_Md_on_53
  · refine lv_iload_n hx hb d_Md_on_7 rfl (lv_at hl 0 rfl) ?_
    refine lv_bipush (v := 64) hx hb d_Md_on_8 (by decide) ?_
    refine rf_topi rfl ?_
    refine lv_icmp_ge (tgt := 60) hx hb d_Md_on_10 (by decide) (fun c_13 => absurd c_13 (nI_ge (show 0 < 64 by decide) (by decide))) (fun c_13 => ?_)
    refine lv_iload_n hx hb d_Md_on_13 rfl (lv_at hl 2 rfl) ?_
    refine lv_sipush (v := 4000) hx hb d_Md_on_14 (by decide) ?_
    refine vp_callSi (va_Run.run (rf_runS (As := [.int px, .int 4000]) (rest := []) S0 ml_Md_48 (c_Md_isIn l D (y_t c0 c1 c2 c3 c4 c5) px 4000) hE trivial ⟨rfl, rfl, Nat.le_of_ble_eq_true rfl, Nat.le_of_ble_eq_true rfl⟩ rfl hl.1 rfl (Nat.le_of_ble_eq_true rfl) d_Md_on_17 ⟨Nat.zero_le _, Nat.zero_le _⟩)) (fun r_14 h_15 => ?_)
    refine lv_if_eq (tgt := 60) hx hb d_Md_on_20 (by decide) (fun c_17 => ?_) (fun c_17 => ?_)
    · refine lv_iconst (v := -1) hx hb d_Md_on_60 (by decide) ?_
      exact W.iret (v := (-1)) hx hb hr (fun t ht hW => ⟨⟨_, (), rfl, (Or.inr ⟨hpl, rfl⟩), by rw [ht]; exact hP, hD⟩, hS.F ht⟩) hS.2.2 d_Md_on_61
    · refine lv_iload_n hx hb d_Md_on_23 rfl (lv_at hl 3 rfl) ?_
      refine lv_sipush (v := 4000) hx hb d_Md_on_24 (by decide) ?_
      refine vp_callSi (va_Run.run (rf_runS (As := [.int py, .int 4000]) (rest := []) S0 ml_Md_48 (c_Md_isIn l D (y_t c0 c1 c2 c3 c4 c5) py 4000) hE trivial ⟨rfl, rfl, Nat.le_of_ble_eq_true rfl, Nat.le_of_ble_eq_true rfl⟩ rfl hl.1 rfl (Nat.le_of_ble_eq_true rfl) d_Md_on_27 ⟨Nat.zero_le _, Nat.zero_le _⟩)) (fun r_18 h_19 => ?_)
      refine lv_if_eq (tgt := 60) hx hb d_Md_on_30 (by decide) (fun c_20 => ?_) (fun c_20 => absurd ⟨(h_15.t c_17), h_19.t c_20⟩ hpl)
      refine lv_iconst (v := -1) hx hb d_Md_on_60 (by decide) ?_
      exact W.iret (v := (-1)) hx hb hr (fun t ht hW => ⟨⟨_, (), rfl, (Or.inr ⟨hpl, rfl⟩), by rw [ht]; exact hP, hD⟩, hS.F ht⟩) hS.2.2 d_Md_on_61
set_option maxHeartbeats 4000000 in
set_option maxRecDepth 100000 in
theorem c_Md_of (l : Launch) (D : va_G) (y t0 t1 t2 t3 t4 t5 : Nat) (c0 c1 c2 c3 c4 c5 : ClassId) (ma ha ex ey dx dy : Int32) (ab be : Int64) (ri : Int32) (o1 o2 : Int64) (f0 f1 f2 f3 f4 f5 : Nat → Int32) (wl : Nat → Option Q4) (hY : rf_YF wl f0 f1 f2 f3 f4) (i what : Int32) (sz : Nat) : Met l y_Md_of (.code y_Md_of b_Md_of 3 (some (.int)) :: BIG) { frames := 1, cells := 0, slots := 0, locals := 40 } (rf_Pc D (y_t c0 c1 c2 c3 c4 c5) [.ref y, .int i, .int what] (fun h => h.size = sz ∧ va_P D vwCl (y_7 y t0 t1 t2 t3 t4 t5 c0 c1 c2 c3 c4 c5 ma ha ex ey dx dy ab be ri o1 o2 f0 f1 f2 f3 f4 f5) h ∧ va_D (fun _ => True) (y_7 y t0 t1 t2 t3 t4 t5 c0 c1 c2 c3 c4 c5 ma ha ex ey dx dy ab be ri o1 o2 f0 f1 f2 f3 f4 f5))) (va_Qi (S := Unit) (fun r _ => (∃ k w, k < 64 ∧ i = nI k ∧ wl k = some w ∧ r = m_of (some w) what) ∨ ((∀ k w, k < 64 → i = nI k → ¬ wl k = some w) ∧ r = 100000)) (fun u t => va_P D vwCl (y_7 y t0 t1 t2 t3 t4 t5 c0 c1 c2 c3 c4 c5 ma ha ex ey dx dy ab be ri o1 o2 f0 f1 f2 f3 f4 f5) t.heap ∧ va_D (va_A (y_7 y t0 t1 t2 t3 t4 t5 c0 c1 c2 c3 c4 c5 ma ha ex ey dx dy ab be ri o1 o2 f0 f1 f2 f3 f4 f5) sz) (y_7 y t0 t1 t2 t3 t4 t5 c0 c1 c2 c3 c4 c5 ma ha ex ey dx dy ab be ri o1 o2 f0 f1 f2 f3 f4 f5)) (va_A (y_7 y t0 t1 t2 t3 t4 t5 c0 c1 c2 c3 c4 c5 ma ha ex ey dx dy ab be ri o1 o2 f0 f1 f2 f3 f4 f5) sz)) 0 0 (va_A (y_7 y t0 t1 t2 t3 t4 t5 c0 c1 c2 c3 c4 c5 ma ha ex ey dx dy ab be ri o1 o2 f0 f1 f2 f3 f4 f5) sz) := by
  refine Met.ofW (cc := b_Md_of) (maxL := 3) (ret := (some (.int))) (by decide) rfl ?_
  intro p e s m args below meth c s₁ B hml hv
  obtain ⟨rfl, hE, hP⟩ := hv
  have hx := B.exec
  have hb := B.bytes
  have hr := B.returns
  have hts : ∀ w ∈ BIG, w.before [.ref y, .int i, .int what].toArray s = true := fun w h => atoms_spec (ws := .code y_Md_of b_Md_of 3 (some (.int)) :: BIG) B.pre w (List.mem_cons_of_mem _ h)
  have hown : s.vm.findClass "RayFieldModel" = some m.cls := findClass_of_methodNamed B.named
  have hlocks := B.notSynchronized
  have hK := hE.2
  have S0 : CallFix p m c b_Md_of 3 s [.ref y, .int i, .int what].toArray BIG "RayFieldModel" := ⟨hx, hb, hml, hown, hts⟩
  have hl := lv_entry ([.ref y, .int i, .int what]) (n := 3) (Nat.le_of_ble_eq_true rfl)
  rw [lg_entry_eq]
  generalize (lg_sl ([.ref y, .int i, .int what]) ++ List.replicate (3 - (lg_sl ([.ref y, .int i, .int what])).length) Slot.unset).toArray = ls at hl ⊢
  have hl : lv_has ls 3 [(0, .ref y), (1, .int i), (2, .int what)] := hl
  obtain ⟨hsz, hP, hD0⟩ := hP
  subst hsz
  have hD := hD0.self (sz := s.heap.size)
  generalize hAe : va_A (y_7 y t0 t1 t2 t3 t4 t5 c0 c1 c2 c3 c4 c5 ma ha ex ey dx dy ab be ri o1 o2 f0 f1 f2 f3 f4 f5) s.heap.size = A at hD ⊢
  have hA : ∀ q : Nat, s.heap.size ≤ q → A q := fun q h => by rw [← hAe]; exact Or.inr h
  obtain ⟨H, hH⟩ : ∃ H : Heap, H = s.heap := ⟨_, rfl⟩
  refine rf_heap hH ?_
  have hS : va_S A s.heap H [] := by rw [hH]; exact va_S.rf
  have hP : va_P D vwCl (y_7 y t0 t1 t2 t3 t4 t5 c0 c1 c2 c3 c4 c5 ma ha ex ey dx dy ab be ri o1 o2 f0 f1 f2 f3 f4 f5) H := by rw [hH]; exact hP
  refine lv_aload_n hx hb d_Md_of_0 rfl (lv_at hl 0 rfl) ?_
  refine lv_iconst (v := 0) hx hb d_Md_of_1 (by decide) ?_
  refine va_put (D := D) (ci := 4) (v := .int 0) (ty := .int) (C := "RayFieldModel") (T := F_Md) (N := 18) hx hb hts in_Md t_Md tok_Md nn_Md hown hK hP hD hS 0 rfl rfl 0 (by decide) (hts _ w_280) (fun _ h9 => h9) rfl (by decide +kernel) rfl rfl (Nat.le_of_ble_eq_true rfl) d_Md_of_2 (fun H locs hP hD hS => ?_)
  have hP : va_P D vwCl (y_7 y t0 t1 t2 t3 t4 t5 c0 c1 c2 c3 c4 c5 ma ha ex ey dx dy ab be ri o1 o2 f0 f1 f2 f3 f4 f5) H := hP
  have hD : va_D A (y_7 y t0 t1 t2 t3 t4 t5 c0 c1 c2 c3 c4 c5 ma ha ex ey dx dy ab be ri o1 o2 f0 f1 f2 f3 f4 f5) := hD
  refine lv_aload_n hx hb d_Md_of_5 rfl (lv_at hl 0 rfl) ?_
  refine lv_iload_n hx hb d_Md_of_6 rfl (lv_at hl 1 rfl) ?_
  refine vp_callSi (va_Run.run (rf_runV (As := [.int i]) (rest := []) S0 ml_Md_58 (c_Md_isWall l D y t0 t1 t2 t3 t4 t5 c0 c1 c2 c3 c4 c5 ma ha ex ey dx dy ab be ri o1 o2 f0 f1 f2 f3 f4 f5 wl hY i) hE (va_recv hK hP (ci := 4) (q0 := 0) rfl rfl) hP ⟨rfl, rfl, Nat.le_of_ble_eq_true rfl, Nat.le_of_ble_eq_true rfl⟩ rfl hl.1 rfl (Nat.le_of_ble_eq_true rfl) d_Md_of_7 ⟨Nat.zero_le _, Nat.zero_le _⟩)) (fun r_1 h_2 => ?_)
  rcases h_2 with ⟨er, k, hk, ek, vv, hwk⟩ | ⟨er, hno⟩
  · subst er
    subst ek
    have hwg := hY.got hk hwk
    refine lv_if_ne (tgt := 16) hx hb d_Md_of_10 (by decide) (fun c_3 => ?_) (fun c_3 => absurd c_3 (by decide))
    refine lv_iload_n hx hb d_Md_of_16 rfl (lv_at hl 2 rfl) ?_
    refine lv_if_ne (tgt := 29) hx hb d_Md_of_17 (by decide) (fun c_4 => ?_) (fun c_4 => ?_)
    · refine lv_iload_n hx hb d_Md_of_29 rfl (lv_at hl 2 rfl) ?_
      refine lv_iconst (v := 1) hx hb d_Md_of_30 (by decide) ?_
      refine lv_icmp_ne (tgt := 43) hx hb d_Md_of_31 (by decide) (fun c_5 => ?_) (fun c_5 => ?_)
      · refine lv_iload_n hx hb d_Md_of_43 rfl (lv_at hl 2 rfl) ?_
        refine lv_iconst (v := 2) hx hb d_Md_of_44 (by decide) ?_
        refine lv_icmp_ne (tgt := 57) hx hb d_Md_of_45 (by decide) (fun c_6 => ?_) (fun c_6 => ?_)
        · refine lv_iload_n hx hb d_Md_of_57 rfl (lv_at hl 2 rfl) ?_
          refine lv_iconst (v := 3) hx hb d_Md_of_58 (by decide) ?_
          refine lv_icmp_ne (tgt := 71) hx hb d_Md_of_59 (by decide) (fun c_7 => ?_) (fun c_7 => ?_)
          · refine lv_ldc (v := 100000) hx hb hown (hts _ w_437) d_Md_of_71 ?_
            exact W.iret (v := 100000) hx hb hr (fun t ht hW => ⟨⟨_, (), rfl, (Or.inl ⟨k, _, hk, rfl, hwg, by unfold m_of; dsimp only; rw [if_neg c_4, if_neg c_5, if_neg c_6, if_neg c_7]⟩), by rw [ht]; exact hP, hD⟩, hS.F ht⟩) hS.2.2 d_Md_of_73
          · refine lv_aload_n hx hb d_Md_of_62 rfl (lv_at hl 0 rfl) ?_
            refine va_get (D := D) (ci := 4) (v := .ref t4) (C := "RayFieldModel") (T := F_Md) (N := 18) hx hb hts in_Md hown hK hP 0 rfl rfl 5 (by decide) (hts _ w_285) (fun _ h9 => h9) rfl d_Md_of_63 ?_
            refine lv_iload_n hx hb d_Md_of_66 rfl (lv_at hl 1 rfl) ?_
            refine rf_iald hx hb hK hP 5 4 rfl rfl hk (by decide) d_Md_of_67 ?_
            refine lv_goto (tgt := 73) hx hb d_Md_of_68 (by decide) ?_
            exact W.iret (v := f4 k) hx hb hr (fun t ht hW => ⟨⟨_, (), rfl, (Or.inl ⟨k, _, hk, rfl, hwg, by unfold m_of; dsimp only; rw [if_neg c_4, if_neg c_5, if_neg c_6, if_pos c_7]⟩), by rw [ht]; exact hP, hD⟩, hS.F ht⟩) hS.2.2 d_Md_of_73
        · refine lv_aload_n hx hb d_Md_of_48 rfl (lv_at hl 0 rfl) ?_
          refine va_get (D := D) (ci := 4) (v := .ref t3) (C := "RayFieldModel") (T := F_Md) (N := 18) hx hb hts in_Md hown hK hP 0 rfl rfl 4 (by decide) (hts _ w_284) (fun _ h9 => h9) rfl d_Md_of_49 ?_
          refine lv_iload_n hx hb d_Md_of_52 rfl (lv_at hl 1 rfl) ?_
          refine rf_iald hx hb hK hP 4 3 rfl rfl hk (by decide) d_Md_of_53 ?_
          refine lv_goto (tgt := 73) hx hb d_Md_of_54 (by decide) ?_
          exact W.iret (v := f3 k) hx hb hr (fun t ht hW => ⟨⟨_, (), rfl, (Or.inl ⟨k, _, hk, rfl, hwg, by unfold m_of; dsimp only; rw [if_neg c_4, if_neg c_5, if_pos c_6]⟩), by rw [ht]; exact hP, hD⟩, hS.F ht⟩) hS.2.2 d_Md_of_73
      · refine lv_aload_n hx hb d_Md_of_34 rfl (lv_at hl 0 rfl) ?_
        refine va_get (D := D) (ci := 4) (v := .ref t2) (C := "RayFieldModel") (T := F_Md) (N := 18) hx hb hts in_Md hown hK hP 0 rfl rfl 3 (by decide) (hts _ w_283) (fun _ h9 => h9) rfl d_Md_of_35 ?_
        refine lv_iload_n hx hb d_Md_of_38 rfl (lv_at hl 1 rfl) ?_
        refine rf_iald hx hb hK hP 3 2 rfl rfl hk (by decide) d_Md_of_39 ?_
        refine lv_goto (tgt := 73) hx hb d_Md_of_40 (by decide) ?_
        exact W.iret (v := f2 k) hx hb hr (fun t ht hW => ⟨⟨_, (), rfl, (Or.inl ⟨k, _, hk, rfl, hwg, by unfold m_of; dsimp only; rw [if_neg c_4, if_pos c_5]⟩), by rw [ht]; exact hP, hD⟩, hS.F ht⟩) hS.2.2 d_Md_of_73
    · refine lv_aload_n hx hb d_Md_of_20 rfl (lv_at hl 0 rfl) ?_
      refine va_get (D := D) (ci := 4) (v := .ref t1) (C := "RayFieldModel") (T := F_Md) (N := 18) hx hb hts in_Md hown hK hP 0 rfl rfl 2 (by decide) (hts _ w_282) (fun _ h9 => h9) rfl d_Md_of_21 ?_
      refine lv_iload_n hx hb d_Md_of_24 rfl (lv_at hl 1 rfl) ?_
      refine rf_iald hx hb hK hP 2 1 rfl rfl hk (by decide) d_Md_of_25 ?_
      refine lv_goto (tgt := 73) hx hb d_Md_of_26 (by decide) ?_
      exact W.iret (v := f1 k) hx hb hr (fun t ht hW => ⟨⟨_, (), rfl, (Or.inl ⟨k, _, hk, rfl, hwg, by unfold m_of; dsimp only; rw [if_pos c_4]⟩), by rw [ht]; exact hP, hD⟩, hS.F ht⟩) hS.2.2 d_Md_of_73
  · subst er
    refine lv_if_ne (tgt := 16) hx hb d_Md_of_10 (by decide) (fun c_8 => absurd rfl c_8) (fun c_8 => ?_)
    refine lv_ldc (v := 100000) hx hb hown (hts _ w_437) d_Md_of_13 ?_
    exact W.iret (v := 100000) hx hb hr (fun t ht hW => ⟨⟨_, (), rfl, (Or.inr ⟨(fun k w hk ek e => hno ⟨k, hk, ek, w, e⟩), rfl⟩), by rw [ht]; exact hP, hD⟩, hS.F ht⟩) hS.2.2 d_Md_of_15
set_option maxHeartbeats 4000000 in
set_option maxRecDepth 100000 in
theorem c_Md_look (l : Launch) (D : va_G) (y t0 t1 t2 t3 t4 t5 : Nat) (c0 c1 c2 c3 c4 c5 : ClassId) (ma ha ex ey dx dy : Int32) (ab be : Int64) (ri : Int32) (o1 o2 : Int64) (f0 f1 f2 f3 f4 f5 : Nat → Int32) (wl : Nat → Option Q4) (hY : rf_YF wl f0 f1 f2 f3 f4) (wh : Int32) (sz : Nat) : Met l y_Md_look (.code y_Md_look b_Md_look 2 (some (.int)) :: BIG) { frames := 1, cells := 0, slots := 0, locals := 40 } (rf_Pc D (y_t c0 c1 c2 c3 c4 c5) [.ref y, .int wh] (fun h => h.size = sz ∧ va_P D vwCl (y_7 y t0 t1 t2 t3 t4 t5 c0 c1 c2 c3 c4 c5 ma ha ex ey dx dy ab be ri o1 o2 f0 f1 f2 f3 f4 f5) h ∧ va_D (fun _ => True) (y_7 y t0 t1 t2 t3 t4 t5 c0 c1 c2 c3 c4 c5 ma ha ex ey dx dy ab be ri o1 o2 f0 f1 f2 f3 f4 f5))) (va_Qi (S := Unit) (fun r _ => (wh = 0 ∧ r = ma) ∨ (wh = 1 ∧ rf_First (fun k => wl k = none) r) ∨ (wh = 2 ∧ rf_tf r (¬ ha = 0)) ∨ (¬ wh = 0 ∧ ¬ wh = 1 ∧ ¬ wh = 2 ∧ r = -1)) (fun u t => va_P D vwCl (y_7 y t0 t1 t2 t3 t4 t5 c0 c1 c2 c3 c4 c5 ma ha ex ey dx dy ab be ri o1 o2 f0 f1 f2 f3 f4 f5) t.heap ∧ va_D (va_A (y_7 y t0 t1 t2 t3 t4 t5 c0 c1 c2 c3 c4 c5 ma ha ex ey dx dy ab be ri o1 o2 f0 f1 f2 f3 f4 f5) sz) (y_7 y t0 t1 t2 t3 t4 t5 c0 c1 c2 c3 c4 c5 ma ha ex ey dx dy ab be ri o1 o2 f0 f1 f2 f3 f4 f5)) (va_A (y_7 y t0 t1 t2 t3 t4 t5 c0 c1 c2 c3 c4 c5 ma ha ex ey dx dy ab be ri o1 o2 f0 f1 f2 f3 f4 f5) sz)) 0 0 (va_A (y_7 y t0 t1 t2 t3 t4 t5 c0 c1 c2 c3 c4 c5 ma ha ex ey dx dy ab be ri o1 o2 f0 f1 f2 f3 f4 f5) sz) := by
  refine Met.ofW (cc := b_Md_look) (maxL := 2) (ret := (some (.int))) (by decide) rfl ?_
  intro p e s m args below meth c s₁ B hml hv
  obtain ⟨rfl, hE, hP⟩ := hv
  have hx := B.exec
  have hb := B.bytes
  have hr := B.returns
  have hts : ∀ w ∈ BIG, w.before [.ref y, .int wh].toArray s = true := fun w h => atoms_spec (ws := .code y_Md_look b_Md_look 2 (some (.int)) :: BIG) B.pre w (List.mem_cons_of_mem _ h)
  have hown : s.vm.findClass "RayFieldModel" = some m.cls := findClass_of_methodNamed B.named
  have hlocks := B.notSynchronized
  have hK := hE.2
  have S0 : CallFix p m c b_Md_look 2 s [.ref y, .int wh].toArray BIG "RayFieldModel" := ⟨hx, hb, hml, hown, hts⟩
  have hl := lv_entry ([.ref y, .int wh]) (n := 2) (Nat.le_of_ble_eq_true rfl)
  rw [lg_entry_eq]
  generalize (lg_sl ([.ref y, .int wh]) ++ List.replicate (2 - (lg_sl ([.ref y, .int wh])).length) Slot.unset).toArray = ls at hl ⊢
  have hl : lv_has ls 2 [(0, .ref y), (1, .int wh)] := hl
  obtain ⟨hsz, hP, hD0⟩ := hP
  subst hsz
  have hD := hD0.self (sz := s.heap.size)
  generalize hAe : va_A (y_7 y t0 t1 t2 t3 t4 t5 c0 c1 c2 c3 c4 c5 ma ha ex ey dx dy ab be ri o1 o2 f0 f1 f2 f3 f4 f5) s.heap.size = A at hD ⊢
  have hA : ∀ q : Nat, s.heap.size ≤ q → A q := fun q h => by rw [← hAe]; exact Or.inr h
  obtain ⟨H, hH⟩ : ∃ H : Heap, H = s.heap := ⟨_, rfl⟩
  refine rf_heap hH ?_
  have hS : va_S A s.heap H [] := by rw [hH]; exact va_S.rf
  have hP : va_P D vwCl (y_7 y t0 t1 t2 t3 t4 t5 c0 c1 c2 c3 c4 c5 ma ha ex ey dx dy ab be ri o1 o2 f0 f1 f2 f3 f4 f5) H := by rw [hH]; exact hP
  refine lv_aload_n hx hb d_Md_look_0 rfl (lv_at hl 0 rfl) ?_
  refine lv_iconst (v := 0) hx hb d_Md_look_1 (by decide) ?_
  refine va_put (D := D) (ci := 4) (v := .int 0) (ty := .int) (C := "RayFieldModel") (T := F_Md) (N := 18) hx hb hts in_Md t_Md tok_Md nn_Md hown hK hP hD hS 0 rfl rfl 0 (by decide) (hts _ w_280) (fun _ h9 => h9) rfl (by decide +kernel) rfl rfl (Nat.le_of_ble_eq_true rfl) d_Md_look_2 (fun H locs hP hD hS => ?_)
  have hP : va_P D vwCl (y_7 y t0 t1 t2 t3 t4 t5 c0 c1 c2 c3 c4 c5 ma ha ex ey dx dy ab be ri o1 o2 f0 f1 f2 f3 f4 f5) H := hP
  have hD : va_D A (y_7 y t0 t1 t2 t3 t4 t5 c0 c1 c2 c3 c4 c5 ma ha ex ey dx dy ab be ri o1 o2 f0 f1 f2 f3 f4 f5) := hD
  refine lv_iload_n hx hb d_Md_look_5 rfl (lv_at hl 1 rfl) ?_
  refine lv_if_ne (tgt := 16) hx hb d_Md_look_6 (by decide) (fun c_1 => ?_) (fun c_1 => ?_)
  · refine lv_iload_n hx hb d_Md_look_16 rfl (lv_at hl 1 rfl) ?_
    refine lv_iconst (v := 1) hx hb d_Md_look_17 (by decide) ?_
    refine lv_icmp_ne (tgt := 28) hx hb d_Md_look_18 (by decide) (fun c_2 => ?_) (fun c_2 => ?_)
    · refine lv_iload_n hx hb d_Md_look_28 rfl (lv_at hl 1 rfl) ?_
      refine lv_iconst (v := 2) hx hb d_Md_look_29 (by decide) ?_
      refine lv_icmp_ne (tgt := 48) hx hb d_Md_look_30 (by decide) (fun c_3 => ?_) (fun c_3 => ?_)
      · refine lv_iconst (v := -1) hx hb d_Md_look_48 (by decide) ?_
        exact W.iret (v := (-1)) hx hb hr (fun t ht hW => ⟨⟨_, (), rfl, (Or.inr (Or.inr (Or.inr ⟨c_1, c_2, c_3, rfl⟩))), by rw [ht]; exact hP, hD⟩, hS.F ht⟩) hS.2.2 d_Md_look_49
      · refine lv_aload_n hx hb d_Md_look_33 rfl (lv_at hl 0 rfl) ?_
        refine va_get (D := D) (ci := 4) (v := .int ha) (C := "RayFieldModel") (T := F_Md) (N := 18) hx hb hts in_Md hown hK hP 0 rfl rfl 7 (by decide) (hts _ w_287) (fun _ h9 => h9) rfl d_Md_look_34 ?_
        refine lv_if_eq (tgt := 44) hx hb d_Md_look_37 (by decide) (fun c_4 => ?_) (fun c_4 => ?_)
        · refine lv_iconst (v := 0) hx hb d_Md_look_44 (by decide) ?_
          refine lv_goto (tgt := 49) hx hb d_Md_look_45 (by decide) ?_
          exact W.iret (v := 0) hx hb hr (fun t ht hW => ⟨⟨_, (), rfl, (Or.inr (Or.inr (Or.inl ⟨c_3, (rf_F (fun z => z c_4))⟩))), by rw [ht]; exact hP, hD⟩, hS.F ht⟩) hS.2.2 d_Md_look_49
        · refine lv_iconst (v := 1) hx hb d_Md_look_40 (by decide) ?_
          refine lv_goto (tgt := 49) hx hb d_Md_look_41 (by decide) ?_
          exact W.iret (v := 1) hx hb hr (fun t ht hW => ⟨⟨_, (), rfl, (Or.inr (Or.inr (Or.inl ⟨c_3, rf_T c_4⟩))), by rw [ht]; exact hP, hD⟩, hS.F ht⟩) hS.2.2 d_Md_look_49
    · refine lv_aload_n hx hb d_Md_look_21 rfl (lv_at hl 0 rfl) ?_
      refine vp_callSi (va_Run.run (rf_runV (As := []) (rest := []) S0 ml_Md_44 (c_Md_free l D y t0 t1 t2 t3 t4 t5 c0 c1 c2 c3 c4 c5 ma ha ex ey dx dy ab be ri o1 o2 f0 f1 f2 f3 f4 f5 wl hY) hE (va_recv hK hP (ci := 4) (q0 := 0) rfl rfl) hP ⟨rfl, rfl, Nat.le_of_ble_eq_true rfl, Nat.le_of_ble_eq_true rfl⟩ rfl hl.1 rfl (Nat.le_of_ble_eq_true rfl) d_Md_look_22 ⟨Nat.zero_le _, Nat.zero_le _⟩)) (fun r_5 h_6 => ?_)
      refine lv_goto (tgt := 49) hx hb d_Md_look_25 (by decide) ?_
      exact W.iret (v := r_5) hx hb hr (fun t ht hW => ⟨⟨_, (), rfl, (Or.inr (Or.inl ⟨c_2, h_6⟩)), by rw [ht]; exact hP, hD⟩, hS.F ht⟩) hS.2.2 d_Md_look_49
  · refine lv_aload_n hx hb d_Md_look_9 rfl (lv_at hl 0 rfl) ?_
    refine va_get (D := D) (ci := 4) (v := .int ma) (C := "RayFieldModel") (T := F_Md) (N := 18) hx hb hts in_Md hown hK hP 0 rfl rfl 6 (by decide) (hts _ w_286) (fun _ h9 => h9) rfl d_Md_look_10 ?_
    refine lv_goto (tgt := 49) hx hb d_Md_look_13 (by decide) ?_
    exact W.iret (v := ma) hx hb hr (fun t ht hW => ⟨⟨_, (), rfl, (Or.inl ⟨c_1, rfl⟩), by rw [ht]; exact hP, hD⟩, hS.F ht⟩) hS.2.2 d_Md_look_49
set_option maxHeartbeats 4000000 in
set_option maxRecDepth 100000 in
theorem c_Md_take (l : Launch) (D : va_G) (y t0 t1 t2 t3 t4 t5 : Nat) (c0 c1 c2 c3 c4 c5 : ClassId) (ma ha ex ey dx dy : Int32) (ab be : Int64) (ri : Int32) (o1 o2 : Int64) (f0 f1 f2 f3 f4 f5 : Nat → Int32) (wl : Nat → Option Q4) (hY : rf_YF wl f0 f1 f2 f3 f4) (i : Int32) (sz : Nat) : Met l y_Md_take (.code y_Md_take b_Md_take 2 (some (.boolean)) :: BIG) { frames := 1, cells := 0, slots := 0, locals := 40 } (rf_Pc D (y_t c0 c1 c2 c3 c4 c5) [.ref y, .int i] (fun h => h.size = sz ∧ va_P D vwCl (y_7 y t0 t1 t2 t3 t4 t5 c0 c1 c2 c3 c4 c5 ma ha ex ey dx dy ab be ri o1 o2 f0 f1 f2 f3 f4 f5) h ∧ va_D (fun _ => True) (y_7 y t0 t1 t2 t3 t4 t5 c0 c1 c2 c3 c4 c5 ma ha ex ey dx dy ab be ri o1 o2 f0 f1 f2 f3 f4 f5))) (va_Qi (S := Int32 × (Nat → Int32) × (Nat → Int32) × (Nat → Int32) × (Nat → Int32) × (Nat → Int32) × (Nat → Option Q4)) (fun r u => ((∃ k w, k < 64 ∧ i = nI k ∧ wl k = some w ∧ r = 1 ∧ u.2.2.2.2.2.2 = va_up wl k none ∧ u.1 = ma - 1) ∨ ((∀ k w, k < 64 → i = nI k → ¬ wl k = some w) ∧ r = 0 ∧ u.2.2.2.2.2.2 = wl ∧ u.1 = ma)) ∧ rf_YF u.2.2.2.2.2.2 u.2.1 u.2.2.1 u.2.2.2.1 u.2.2.2.2.1 u.2.2.2.2.2.1) (fun u t => va_P D vwCl (y_7 y t0 t1 t2 t3 t4 t5 c0 c1 c2 c3 c4 c5 u.1 ha ex ey dx dy ab be ri o1 o2 u.2.1 u.2.2.1 u.2.2.2.1 u.2.2.2.2.1 u.2.2.2.2.2.1 f5) t.heap ∧ va_D (va_A (y_7 y t0 t1 t2 t3 t4 t5 c0 c1 c2 c3 c4 c5 ma ha ex ey dx dy ab be ri o1 o2 f0 f1 f2 f3 f4 f5) sz) (y_7 y t0 t1 t2 t3 t4 t5 c0 c1 c2 c3 c4 c5 u.1 ha ex ey dx dy ab be ri o1 o2 u.2.1 u.2.2.1 u.2.2.2.1 u.2.2.2.2.1 u.2.2.2.2.2.1 f5)) (va_A (y_7 y t0 t1 t2 t3 t4 t5 c0 c1 c2 c3 c4 c5 ma ha ex ey dx dy ab be ri o1 o2 f0 f1 f2 f3 f4 f5) sz)) 0 0 (va_A (y_7 y t0 t1 t2 t3 t4 t5 c0 c1 c2 c3 c4 c5 ma ha ex ey dx dy ab be ri o1 o2 f0 f1 f2 f3 f4 f5) sz) := by
  refine Met.ofW (cc := b_Md_take) (maxL := 2) (ret := (some (.boolean))) (by decide) rfl ?_
  intro p e s m args below meth c s₁ B hml hv
  obtain ⟨rfl, hE, hP⟩ := hv
  have hx := B.exec
  have hb := B.bytes
  have hr := B.returns
  have hts : ∀ w ∈ BIG, w.before [.ref y, .int i].toArray s = true := fun w h => atoms_spec (ws := .code y_Md_take b_Md_take 2 (some (.boolean)) :: BIG) B.pre w (List.mem_cons_of_mem _ h)
  have hown : s.vm.findClass "RayFieldModel" = some m.cls := findClass_of_methodNamed B.named
  have hlocks := B.notSynchronized
  have hK := hE.2
  have S0 : CallFix p m c b_Md_take 2 s [.ref y, .int i].toArray BIG "RayFieldModel" := ⟨hx, hb, hml, hown, hts⟩
  have hl := lv_entry ([.ref y, .int i]) (n := 2) (Nat.le_of_ble_eq_true rfl)
  rw [lg_entry_eq]
  generalize (lg_sl ([.ref y, .int i]) ++ List.replicate (2 - (lg_sl ([.ref y, .int i])).length) Slot.unset).toArray = ls at hl ⊢
  have hl : lv_has ls 2 [(0, .ref y), (1, .int i)] := hl
  obtain ⟨hsz, hP, hD0⟩ := hP
  subst hsz
  have hD := hD0.self (sz := s.heap.size)
  generalize hAe : va_A (y_7 y t0 t1 t2 t3 t4 t5 c0 c1 c2 c3 c4 c5 ma ha ex ey dx dy ab be ri o1 o2 f0 f1 f2 f3 f4 f5) s.heap.size = A at hD ⊢
  have hA : ∀ q : Nat, s.heap.size ≤ q → A q := fun q h => by rw [← hAe]; exact Or.inr h
  obtain ⟨H, hH⟩ : ∃ H : Heap, H = s.heap := ⟨_, rfl⟩
  refine rf_heap hH ?_
  have hS : va_S A s.heap H [] := by rw [hH]; exact va_S.rf
  have hP : va_P D vwCl (y_7 y t0 t1 t2 t3 t4 t5 c0 c1 c2 c3 c4 c5 ma ha ex ey dx dy ab be ri o1 o2 f0 f1 f2 f3 f4 f5) H := by rw [hH]; exact hP
  refine lv_aload_n hx hb d_Md_take_0 rfl (lv_at hl 0 rfl) ?_
  refine lv_iconst (v := 0) hx hb d_Md_take_1 (by decide) ?_
  refine va_put (D := D) (ci := 4) (v := .int 0) (ty := .int) (C := "RayFieldModel") (T := F_Md) (N := 18) hx hb hts in_Md t_Md tok_Md nn_Md hown hK hP hD hS 0 rfl rfl 0 (by decide) (hts _ w_280) (fun _ h9 => h9) rfl (by decide +kernel) rfl rfl (Nat.le_of_ble_eq_true rfl) d_Md_take_2 (fun H locs hP hD hS => ?_)
  have hP : va_P D vwCl (y_7 y t0 t1 t2 t3 t4 t5 c0 c1 c2 c3 c4 c5 ma ha ex ey dx dy ab be ri o1 o2 f0 f1 f2 f3 f4 f5) H := hP
  have hD : va_D A (y_7 y t0 t1 t2 t3 t4 t5 c0 c1 c2 c3 c4 c5 ma ha ex ey dx dy ab be ri o1 o2 f0 f1 f2 f3 f4 f5) := hD
  refine lv_aload_n hx hb d_Md_take_5 rfl (lv_at hl 0 rfl) ?_
  refine lv_iload_n hx hb d_Md_take_6 rfl (lv_at hl 1 rfl) ?_
  refine vp_callSi (va_Run.run (rf_runV (As := [.int i]) (rest := []) S0 ml_Md_58 (c_Md_isWall l D y t0 t1 t2 t3 t4 t5 c0 c1 c2 c3 c4 c5 ma ha ex ey dx dy ab be ri o1 o2 f0 f1 f2 f3 f4 f5 wl hY i) hE (va_recv hK hP (ci := 4) (q0 := 0) rfl rfl) hP ⟨rfl, rfl, Nat.le_of_ble_eq_true rfl, Nat.le_of_ble_eq_true rfl⟩ rfl hl.1 rfl (Nat.le_of_ble_eq_true rfl) d_Md_take_7 ⟨Nat.zero_le _, Nat.zero_le _⟩)) (fun r_1 h_2 => ?_)
  rcases h_2 with ⟨er, k, hk, ek, vv, hwk⟩ | ⟨er, hno⟩
  · subst er
    subst ek
    have hwg := hY.got hk hwk
    refine lv_if_ne (tgt := 15) hx hb d_Md_take_10 (by decide) (fun c_3 => ?_) (fun c_3 => absurd c_3 (by decide))
    refine lv_aload_n hx hb d_Md_take_15 rfl (lv_at hl 0 rfl) ?_
    refine va_get (D := D) (ci := 4) (v := .ref t0) (C := "RayFieldModel") (T := F_Md) (N := 18) hx hb hts in_Md hown hK hP 0 rfl rfl 1 (by decide) (hts _ w_281) (fun _ h9 => h9) rfl d_Md_take_16 ?_
    refine lv_iload_n hx hb d_Md_take_19 rfl (lv_at hl 1 rfl) ?_
    refine lv_iconst (v := 0) hx hb d_Md_take_20 (by decide) ?_
    refine rf_zast hx hb hK hP hD hS 1 0 rfl rfl hk (by decide) rfl d_Md_take_21 (fun H locs hP hD hS => ?_)
    have hP : va_P D vwCl (y_7 y t0 t1 t2 t3 t4 t5 c0 c1 c2 c3 c4 c5 ma ha ex ey dx dy ab be ri o1 o2 (upd f0 k 0) f1 f2 f3 f4 f5) H := hP
    have hD : va_D A (y_7 y t0 t1 t2 t3 t4 t5 c0 c1 c2 c3 c4 c5 ma ha ex ey dx dy ab be ri o1 o2 (upd f0 k 0) f1 f2 f3 f4 f5) := hD
    refine lv_aload_n hx hb d_Md_take_22 rfl (lv_at hl 0 rfl) ?_
    refine lv_dup hx hb d_Md_take_23 rfl ?_
    refine va_get (D := D) (ci := 4) (v := .int ma) (C := "RayFieldModel") (T := F_Md) (N := 18) hx hb hts in_Md hown hK hP 0 rfl rfl 6 (by decide) (hts _ w_286) (fun _ h9 => h9) rfl d_Md_take_24 ?_
    refine lv_iconst (v := 1) hx hb d_Md_take_27 (by decide) ?_
    refine lv_isub hx hb d_Md_take_28 ?_
    refine va_put (D := D) (ci := 4) (v := .int (ma - 1)) (ty := .int) (C := "RayFieldModel") (T := F_Md) (N := 18) hx hb hts in_Md t_Md tok_Md nn_Md hown hK hP hD hS 0 rfl rfl 6 (by decide) (hts _ w_286) (fun _ h9 => h9) rfl (by decide +kernel) rfl rfl (Nat.le_of_ble_eq_true rfl) d_Md_take_29 (fun H locs hP hD hS => ?_)
    have hP : va_P D vwCl (y_7 y t0 t1 t2 t3 t4 t5 c0 c1 c2 c3 c4 c5 (ma - 1) ha ex ey dx dy ab be ri o1 o2 (upd f0 k 0) f1 f2 f3 f4 f5) H := hP
    have hD : va_D A (y_7 y t0 t1 t2 t3 t4 t5 c0 c1 c2 c3 c4 c5 (ma - 1) ha ex ey dx dy ab be ri o1 o2 (upd f0 k 0) f1 f2 f3 f4 f5) := hD
    refine lv_iconst (v := 1) hx hb d_Md_take_32 (by decide) ?_
    exact W.zret (v := 1) (ty := .boolean) hx hb hr rfl (fun t ht hW => ⟨⟨_, (ma - 1, upd f0 k 0, f1, f2, f3, f4, va_up wl k none), rfl, ⟨Or.inl ⟨k, _, hk, rfl, hwk, rfl, rfl, rfl⟩, hY.take⟩, by rw [ht]; exact hP, hD⟩, hS.F ht⟩) hS.2.2 d_Md_take_33
  · subst er
    refine lv_if_ne (tgt := 15) hx hb d_Md_take_10 (by decide) (fun c_4 => absurd rfl c_4) (fun c_4 => ?_)
    refine lv_iconst (v := 0) hx hb d_Md_take_13 (by decide) ?_
    exact W.zret (v := 0) (ty := .boolean) hx hb hr rfl (fun t ht hW => ⟨⟨_, (ma, f0, f1, f2, f3, f4, wl), rfl, ⟨Or.inr ⟨(fun k w hk ek e => hno ⟨k, hk, ek, w, e⟩), rfl, rfl, rfl⟩, hY⟩, by rw [ht]; exact hP, hD⟩, hS.F ht⟩) hS.2.2 d_Md_take_14
set_option maxHeartbeats 4000000 in
set_option maxRecDepth 100000 in
theorem c_Md_turn (l : Launch) (D : va_G) (y t0 t1 t2 t3 t4 t5 : Nat) (c0 c1 c2 c3 c4 c5 : ClassId) (ma ha ex ey dx dy : Int32) (ab be : Int64) (ri : Int32) (o1 o2 : Int64) (f0 f1 f2 f3 f4 f5 : Nat → Int32) (wl : Nat → Option Q4) (hY : rf_YF wl f0 f1 f2 f3 f4) (i : Int32) (sz : Nat) : Met l y_Md_turn (.code y_Md_turn b_Md_turn 4 (some (.boolean)) :: BIG) { frames := 1, cells := 0, slots := 0, locals := 40 } (rf_Pc D (y_t c0 c1 c2 c3 c4 c5) [.ref y, .int i] (fun h => h.size = sz ∧ va_P D vwCl (y_7 y t0 t1 t2 t3 t4 t5 c0 c1 c2 c3 c4 c5 ma ha ex ey dx dy ab be ri o1 o2 f0 f1 f2 f3 f4 f5) h ∧ va_D (fun _ => True) (y_7 y t0 t1 t2 t3 t4 t5 c0 c1 c2 c3 c4 c5 ma ha ex ey dx dy ab be ri o1 o2 f0 f1 f2 f3 f4 f5))) (va_Qi (S := Int32 × (Nat → Int32) × (Nat → Int32) × (Nat → Int32) × (Nat → Int32) × (Nat → Int32) × (Nat → Option Q4)) (fun r u => ((∃ k w, k < 64 ∧ i = nI k ∧ wl k = some w ∧ r = 1 ∧ u.2.2.2.2.2.2 = va_up wl k (some (w.2.2.1, w.2.2.2, w.1, w.2.1)) ∧ u.1 = ma) ∨ ((∀ k w, k < 64 → i = nI k → ¬ wl k = some w) ∧ r = 0 ∧ u.2.2.2.2.2.2 = wl ∧ u.1 = ma)) ∧ rf_YF u.2.2.2.2.2.2 u.2.1 u.2.2.1 u.2.2.2.1 u.2.2.2.2.1 u.2.2.2.2.2.1) (fun u t => va_P D vwCl (y_7 y t0 t1 t2 t3 t4 t5 c0 c1 c2 c3 c4 c5 u.1 ha ex ey dx dy ab be ri o1 o2 u.2.1 u.2.2.1 u.2.2.2.1 u.2.2.2.2.1 u.2.2.2.2.2.1 f5) t.heap ∧ va_D (va_A (y_7 y t0 t1 t2 t3 t4 t5 c0 c1 c2 c3 c4 c5 ma ha ex ey dx dy ab be ri o1 o2 f0 f1 f2 f3 f4 f5) sz) (y_7 y t0 t1 t2 t3 t4 t5 c0 c1 c2 c3 c4 c5 u.1 ha ex ey dx dy ab be ri o1 o2 u.2.1 u.2.2.1 u.2.2.2.1 u.2.2.2.2.1 u.2.2.2.2.2.1 f5)) (va_A (y_7 y t0 t1 t2 t3 t4 t5 c0 c1 c2 c3 c4 c5 ma ha ex ey dx dy ab be ri o1 o2 f0 f1 f2 f3 f4 f5) sz)) 0 0 (va_A (y_7 y t0 t1 t2 t3 t4 t5 c0 c1 c2 c3 c4 c5 ma ha ex ey dx dy ab be ri o1 o2 f0 f1 f2 f3 f4 f5) sz) := by
  refine Met.ofW (cc := b_Md_turn) (maxL := 4) (ret := (some (.boolean))) (by decide) rfl ?_
  intro p e s m args below meth c s₁ B hml hv
  obtain ⟨rfl, hE, hP⟩ := hv
  have hx := B.exec
  have hb := B.bytes
  have hr := B.returns
  have hts : ∀ w ∈ BIG, w.before [.ref y, .int i].toArray s = true := fun w h => atoms_spec (ws := .code y_Md_turn b_Md_turn 4 (some (.boolean)) :: BIG) B.pre w (List.mem_cons_of_mem _ h)
  have hown : s.vm.findClass "RayFieldModel" = some m.cls := findClass_of_methodNamed B.named
  have hlocks := B.notSynchronized
  have hK := hE.2
  have S0 : CallFix p m c b_Md_turn 4 s [.ref y, .int i].toArray BIG "RayFieldModel" := ⟨hx, hb, hml, hown, hts⟩
  have hl := lv_entry ([.ref y, .int i]) (n := 4) (Nat.le_of_ble_eq_true rfl)
  rw [lg_entry_eq]
  generalize (lg_sl ([.ref y, .int i]) ++ List.replicate (4 - (lg_sl ([.ref y, .int i])).length) Slot.unset).toArray = ls at hl ⊢
  have hl : lv_has ls 4 [(0, .ref y), (1, .int i)] := hl
  obtain ⟨hsz, hP, hD0⟩ := hP
  subst hsz
  have hD := hD0.self (sz := s.heap.size)
  generalize hAe : va_A (y_7 y t0 t1 t2 t3 t4 t5 c0 c1 c2 c3 c4 c5 ma ha ex ey dx dy ab be ri o1 o2 f0 f1 f2 f3 f4 f5) s.heap.size = A at hD ⊢
  have hA : ∀ q : Nat, s.heap.size ≤ q → A q := fun q h => by rw [← hAe]; exact Or.inr h
  obtain ⟨H, hH⟩ : ∃ H : Heap, H = s.heap := ⟨_, rfl⟩
  refine rf_heap hH ?_
  have hS : va_S A s.heap H [] := by rw [hH]; exact va_S.rf
  have hP : va_P D vwCl (y_7 y t0 t1 t2 t3 t4 t5 c0 c1 c2 c3 c4 c5 ma ha ex ey dx dy ab be ri o1 o2 f0 f1 f2 f3 f4 f5) H := by rw [hH]; exact hP
  refine lv_aload_n hx hb d_Md_turn_0 rfl (lv_at hl 0 rfl) ?_
  refine lv_iconst (v := 0) hx hb d_Md_turn_1 (by decide) ?_
  refine va_put (D := D) (ci := 4) (v := .int 0) (ty := .int) (C := "RayFieldModel") (T := F_Md) (N := 18) hx hb hts in_Md t_Md tok_Md nn_Md hown hK hP hD hS 0 rfl rfl 0 (by decide) (hts _ w_280) (fun _ h9 => h9) rfl (by decide +kernel) rfl rfl (Nat.le_of_ble_eq_true rfl) d_Md_turn_2 (fun H locs hP hD hS => ?_)
  have hP : va_P D vwCl (y_7 y t0 t1 t2 t3 t4 t5 c0 c1 c2 c3 c4 c5 ma ha ex ey dx dy ab be ri o1 o2 f0 f1 f2 f3 f4 f5) H := hP
  have hD : va_D A (y_7 y t0 t1 t2 t3 t4 t5 c0 c1 c2 c3 c4 c5 ma ha ex ey dx dy ab be ri o1 o2 f0 f1 f2 f3 f4 f5) := hD
  refine lv_aload_n hx hb d_Md_turn_5 rfl (lv_at hl 0 rfl) ?_
  refine lv_iload_n hx hb d_Md_turn_6 rfl (lv_at hl 1 rfl) ?_
  refine vp_callSi (va_Run.run (rf_runV (As := [.int i]) (rest := []) S0 ml_Md_58 (c_Md_isWall l D y t0 t1 t2 t3 t4 t5 c0 c1 c2 c3 c4 c5 ma ha ex ey dx dy ab be ri o1 o2 f0 f1 f2 f3 f4 f5 wl hY i) hE (va_recv hK hP (ci := 4) (q0 := 0) rfl rfl) hP ⟨rfl, rfl, Nat.le_of_ble_eq_true rfl, Nat.le_of_ble_eq_true rfl⟩ rfl hl.1 rfl (Nat.le_of_ble_eq_true rfl) d_Md_turn_7 ⟨Nat.zero_le _, Nat.zero_le _⟩)) (fun r_1 h_2 => ?_)
  rcases h_2 with ⟨er, k, hk, ek, vv, hwk⟩ | ⟨er, hno⟩
  · subst er
    subst ek
    have hwg := hY.got hk hwk
    refine lv_if_ne (tgt := 15) hx hb d_Md_turn_10 (by decide) (fun c_3 => ?_) (fun c_3 => absurd c_3 (by decide))
    refine lv_aload_n hx hb d_Md_turn_15 rfl (lv_at hl 0 rfl) ?_
    refine va_get (D := D) (ci := 4) (v := .ref t1) (C := "RayFieldModel") (T := F_Md) (N := 18) hx hb hts in_Md hown hK hP 0 rfl rfl 2 (by decide) (hts _ w_282) (fun _ h9 => h9) rfl d_Md_turn_16 ?_
    refine lv_iload_n hx hb d_Md_turn_19 rfl (lv_at hl 1 rfl) ?_
    refine rf_iald hx hb hK hP 2 1 rfl rfl hk (by decide) d_Md_turn_20 ?_
    refine lv_istore_n (lv' := [(2, .int (f1 k)), (0, .ref y), (1, .int (nI k))]) hx hb d_Md_turn_21 rfl hl (by decide) rfl (fun ls hl => ?_)
    refine lv_aload_n hx hb d_Md_turn_22 rfl (lv_at hl 1 rfl) ?_
    refine va_get (D := D) (ci := 4) (v := .ref t2) (C := "RayFieldModel") (T := F_Md) (N := 18) hx hb hts in_Md hown hK hP 0 rfl rfl 3 (by decide) (hts _ w_283) (fun _ h9 => h9) rfl d_Md_turn_23 ?_
    refine lv_iload_n hx hb d_Md_turn_26 rfl (lv_at hl 2 rfl) ?_
    refine rf_iald hx hb hK hP 3 2 rfl rfl hk (by decide) d_Md_turn_27 ?_
    refine lv_istore_n (lv' := [(3, .int (f2 k)), (2, .int (f1 k)), (0, .ref y), (1, .int (nI k))]) hx hb d_Md_turn_28 rfl hl (by decide) rfl (fun ls hl => ?_)
    refine lv_aload_n hx hb d_Md_turn_29 rfl (lv_at hl 2 rfl) ?_
    refine va_get (D := D) (ci := 4) (v := .ref t1) (C := "RayFieldModel") (T := F_Md) (N := 18) hx hb hts in_Md hown hK hP 0 rfl rfl 2 (by decide) (hts _ w_282) (fun _ h9 => h9) rfl d_Md_turn_30 ?_
    refine lv_iload_n hx hb d_Md_turn_33 rfl (lv_at hl 3 rfl) ?_
    refine lv_aload_n hx hb d_Md_turn_34 rfl (lv_at hl 2 rfl) ?_
    refine va_get (D := D) (ci := 4) (v := .ref t3) (C := "RayFieldModel") (T := F_Md) (N := 18) hx hb hts in_Md hown hK hP 0 rfl rfl 4 (by decide) (hts _ w_284) (fun _ h9 => h9) rfl d_Md_turn_35 ?_
    refine lv_iload_n hx hb d_Md_turn_38 rfl (lv_at hl 3 rfl) ?_
    refine rf_iald hx hb hK hP 4 3 rfl rfl hk (by decide) d_Md_turn_39 ?_
    refine rf_iast hx hb hK hP hD hS 2 1 rfl rfl hk (by decide) d_Md_turn_40 (fun H locs hP hD hS => ?_)
    have hP : va_P D vwCl (y_7 y t0 t1 t2 t3 t4 t5 c0 c1 c2 c3 c4 c5 ma ha ex ey dx dy ab be ri o1 o2 f0 (upd f1 k (f3 k)) f2 f3 f4 f5) H := hP
    have hD : va_D A (y_7 y t0 t1 t2 t3 t4 t5 c0 c1 c2 c3 c4 c5 ma ha ex ey dx dy ab be ri o1 o2 f0 (upd f1 k (f3 k)) f2 f3 f4 f5) := hD
    refine lv_aload_n hx hb d_Md_turn_41 rfl (lv_at hl 2 rfl) ?_
    refine va_get (D := D) (ci := 4) (v := .ref t2) (C := "RayFieldModel") (T := F_Md) (N := 18) hx hb hts in_Md hown hK hP 0 rfl rfl 3 (by decide) (hts _ w_283) (fun _ h9 => h9) rfl d_Md_turn_42 ?_
    refine lv_iload_n hx hb d_Md_turn_45 rfl (lv_at hl 3 rfl) ?_
    refine lv_aload_n hx hb d_Md_turn_46 rfl (lv_at hl 2 rfl) ?_
    refine va_get (D := D) (ci := 4) (v := .ref t4) (C := "RayFieldModel") (T := F_Md) (N := 18) hx hb hts in_Md hown hK hP 0 rfl rfl 5 (by decide) (hts _ w_285) (fun _ h9 => h9) rfl d_Md_turn_47 ?_
    refine lv_iload_n hx hb d_Md_turn_50 rfl (lv_at hl 3 rfl) ?_
    refine rf_iald hx hb hK hP 5 4 rfl rfl hk (by decide) d_Md_turn_51 ?_
    refine rf_iast hx hb hK hP hD hS 3 2 rfl rfl hk (by decide) d_Md_turn_52 (fun H locs hP hD hS => ?_)
    have hP : va_P D vwCl (y_7 y t0 t1 t2 t3 t4 t5 c0 c1 c2 c3 c4 c5 ma ha ex ey dx dy ab be ri o1 o2 f0 (upd f1 k (f3 k)) (upd f2 k (f4 k)) f3 f4 f5) H := hP
    have hD : va_D A (y_7 y t0 t1 t2 t3 t4 t5 c0 c1 c2 c3 c4 c5 ma ha ex ey dx dy ab be ri o1 o2 f0 (upd f1 k (f3 k)) (upd f2 k (f4 k)) f3 f4 f5) := hD
    refine lv_aload_n hx hb d_Md_turn_53 rfl (lv_at hl 2 rfl) ?_
    refine va_get (D := D) (ci := 4) (v := .ref t3) (C := "RayFieldModel") (T := F_Md) (N := 18) hx hb hts in_Md hown hK hP 0 rfl rfl 4 (by decide) (hts _ w_284) (fun _ h9 => h9) rfl d_Md_turn_54 ?_
    refine lv_iload_n hx hb d_Md_turn_57 rfl (lv_at hl 3 rfl) ?_
    refine lv_iload_n hx hb d_Md_turn_58 rfl (lv_at hl 1 rfl) ?_
    refine rf_iast hx hb hK hP hD hS 4 3 rfl rfl hk (by decide) d_Md_turn_59 (fun H locs hP hD hS => ?_)
    have hP : va_P D vwCl (y_7 y t0 t1 t2 t3 t4 t5 c0 c1 c2 c3 c4 c5 ma ha ex ey dx dy ab be ri o1 o2 f0 (upd f1 k (f3 k)) (upd f2 k (f4 k)) (upd f3 k (f1 k)) f4 f5) H := hP
    have hD : va_D A (y_7 y t0 t1 t2 t3 t4 t5 c0 c1 c2 c3 c4 c5 ma ha ex ey dx dy ab be ri o1 o2 f0 (upd f1 k (f3 k)) (upd f2 k (f4 k)) (upd f3 k (f1 k)) f4 f5) := hD
    refine lv_aload_n hx hb d_Md_turn_60 rfl (lv_at hl 2 rfl) ?_
    refine va_get (D := D) (ci := 4) (v := .ref t4) (C := "RayFieldModel") (T := F_Md) (N := 18) hx hb hts in_Md hown hK hP 0 rfl rfl 5 (by decide) (hts _ w_285) (fun _ h9 => h9) rfl d_Md_turn_61 ?_
    refine lv_iload_n hx hb d_Md_turn_64 rfl (lv_at hl 3 rfl) ?_
    refine lv_iload_n hx hb d_Md_turn_65 rfl (lv_at hl 0 rfl) ?_
    refine rf_iast hx hb hK hP hD hS 5 4 rfl rfl hk (by decide) d_Md_turn_66 (fun H locs hP hD hS => ?_)
    have hP : va_P D vwCl (y_7 y t0 t1 t2 t3 t4 t5 c0 c1 c2 c3 c4 c5 ma ha ex ey dx dy ab be ri o1 o2 f0 (upd f1 k (f3 k)) (upd f2 k (f4 k)) (upd f3 k (f1 k)) (upd f4 k (f2 k)) f5) H := hP
    have hD : va_D A (y_7 y t0 t1 t2 t3 t4 t5 c0 c1 c2 c3 c4 c5 ma ha ex ey dx dy ab be ri o1 o2 f0 (upd f1 k (f3 k)) (upd f2 k (f4 k)) (upd f3 k (f1 k)) (upd f4 k (f2 k)) f5) := hD
    refine lv_iconst (v := 1) hx hb d_Md_turn_67 (by decide) ?_
    exact W.zret (v := 1) (ty := .boolean) hx hb hr rfl (fun t ht hW => ⟨⟨_, (ma, f0, upd f1 k (f3 k), upd f2 k (f4 k), upd f3 k (f1 k), upd f4 k (f2 k), va_up wl k (some (f3 k, f4 k, f1 k, f2 k))), rfl, ⟨Or.inl ⟨k, _, hk, rfl, hwg, rfl, rfl, rfl⟩, hY.turn (fun z => by rw [hY.zero hk z] at hwk; cases hwk) hk⟩, by rw [ht]; exact hP, hD⟩, hS.F ht⟩) hS.2.2 d_Md_turn_68
  · subst er
    refine lv_if_ne (tgt := 15) hx hb d_Md_turn_10 (by decide) (fun c_4 => absurd rfl c_4) (fun c_4 => ?_)
    refine lv_iconst (v := 0) hx hb d_Md_turn_13 (by decide) ?_
    exact W.zret (v := 0) (ty := .boolean) hx hb hr rfl (fun t ht hW => ⟨⟨_, (ma, f0, f1, f2, f3, f4, wl), rfl, ⟨Or.inr ⟨(fun k w hk ek e => hno ⟨k, hk, ek, w, e⟩), rfl, rfl, rfl⟩, hY⟩, by rw [ht]; exact hP, hD⟩, hS.F ht⟩) hS.2.2 d_Md_turn_14
set_option maxHeartbeats 4000000 in
set_option maxRecDepth 100000 in
theorem c_Md_clear (l : Launch) (D : va_G) (y t0 t1 t2 t3 t4 t5 : Nat) (c0 c1 c2 c3 c4 c5 : ClassId) (ma ha ex ey dx dy : Int32) (ab be : Int64) (ri : Int32) (o1 o2 : Int64) (f0 f1 f2 f3 f4 f5 : Nat → Int32) (wl : Nat → Option Q4) (hY : rf_YF wl f0 f1 f2 f3 f4) (sz : Nat) : Met l y_Md_clear (.code y_Md_clear b_Md_clear 2 none :: BIG) { frames := 0, cells := 0, slots := 0, locals := 0 } (rf_Pc D (y_t c0 c1 c2 c3 c4 c5) [.ref y] (fun h => h.size = sz ∧ va_P D vwCl (y_7 y t0 t1 t2 t3 t4 t5 c0 c1 c2 c3 c4 c5 ma ha ex ey dx dy ab be ri o1 o2 f0 f1 f2 f3 f4 f5) h ∧ va_D (fun _ => True) (y_7 y t0 t1 t2 t3 t4 t5 c0 c1 c2 c3 c4 c5 ma ha ex ey dx dy ab be ri o1 o2 f0 f1 f2 f3 f4 f5))) (va_Qv (S := Int32 × (Nat → Int32) × (Nat → Int32) × (Nat → Int32) × (Nat → Int32) × (Nat → Int32) × (Nat → Option Q4)) (fun u => (u.2.2.2.2.2.2 = (fun _ => none) ∧ u.1 = 0) ∧ rf_YF u.2.2.2.2.2.2 u.2.1 u.2.2.1 u.2.2.2.1 u.2.2.2.2.1 u.2.2.2.2.2.1) (fun u t => va_P D vwCl (y_7 y t0 t1 t2 t3 t4 t5 c0 c1 c2 c3 c4 c5 u.1 ha ex ey dx dy ab be ri o1 o2 u.2.1 u.2.2.1 u.2.2.2.1 u.2.2.2.2.1 u.2.2.2.2.2.1 f5) t.heap ∧ va_D (va_A (y_7 y t0 t1 t2 t3 t4 t5 c0 c1 c2 c3 c4 c5 ma ha ex ey dx dy ab be ri o1 o2 f0 f1 f2 f3 f4 f5) sz) (y_7 y t0 t1 t2 t3 t4 t5 c0 c1 c2 c3 c4 c5 u.1 ha ex ey dx dy ab be ri o1 o2 u.2.1 u.2.2.1 u.2.2.2.1 u.2.2.2.2.1 u.2.2.2.2.2.1 f5)) (va_A (y_7 y t0 t1 t2 t3 t4 t5 c0 c1 c2 c3 c4 c5 ma ha ex ey dx dy ab be ri o1 o2 f0 f1 f2 f3 f4 f5) sz)) 0 0 (va_A (y_7 y t0 t1 t2 t3 t4 t5 c0 c1 c2 c3 c4 c5 ma ha ex ey dx dy ab be ri o1 o2 f0 f1 f2 f3 f4 f5) sz) := by
  refine Met.ofW (cc := b_Md_clear) (maxL := 2) (ret := none) (by decide) rfl ?_
  intro p e s m args below meth c s₁ B hml hv
  obtain ⟨rfl, hE, hP⟩ := hv
  have hx := B.exec
  have hb := B.bytes
  have hr := B.returns
  have hts : ∀ w ∈ BIG, w.before [.ref y].toArray s = true := fun w h => atoms_spec (ws := .code y_Md_clear b_Md_clear 2 none :: BIG) B.pre w (List.mem_cons_of_mem _ h)
  have hown : s.vm.findClass "RayFieldModel" = some m.cls := findClass_of_methodNamed B.named
  have hlocks := B.notSynchronized
  have hK := hE.2
  have S0 : CallFix p m c b_Md_clear 2 s [.ref y].toArray BIG "RayFieldModel" := ⟨hx, hb, hml, hown, hts⟩
  have hl := lv_entry ([.ref y]) (n := 2) (Nat.le_of_ble_eq_true rfl)
  rw [lg_entry_eq]
  generalize (lg_sl ([.ref y]) ++ List.replicate (2 - (lg_sl ([.ref y])).length) Slot.unset).toArray = ls at hl ⊢
  have hl : lv_has ls 2 [(0, .ref y)] := hl
  obtain ⟨hsz, hP, hD0⟩ := hP
  subst hsz
  have hD := hD0.self (sz := s.heap.size)
  generalize hAe : va_A (y_7 y t0 t1 t2 t3 t4 t5 c0 c1 c2 c3 c4 c5 ma ha ex ey dx dy ab be ri o1 o2 f0 f1 f2 f3 f4 f5) s.heap.size = A at hD ⊢
  have hA : ∀ q : Nat, s.heap.size ≤ q → A q := fun q h => by rw [← hAe]; exact Or.inr h
  obtain ⟨H, hH⟩ : ∃ H : Heap, H = s.heap := ⟨_, rfl⟩
  refine rf_heap hH ?_
  have hS : va_S A s.heap H [] := by rw [hH]; exact va_S.rf
  have hP : va_P D vwCl (y_7 y t0 t1 t2 t3 t4 t5 c0 c1 c2 c3 c4 c5 ma ha ex ey dx dy ab be ri o1 o2 f0 f1 f2 f3 f4 f5) H := by rw [hH]; exact hP
  refine lv_aload_n hx hb d_Md_clear_0 rfl (lv_at hl 0 rfl) ?_
  refine lv_iconst (v := 0) hx hb d_Md_clear_1 (by decide) ?_
  refine va_put (D := D) (ci := 4) (v := .int 0) (ty := .int) (C := "RayFieldModel") (T := F_Md) (N := 18) hx hb hts in_Md t_Md tok_Md nn_Md hown hK hP hD hS 0 rfl rfl 0 (by decide) (hts _ w_280) (fun _ h9 => h9) rfl (by decide +kernel) rfl rfl (Nat.le_of_ble_eq_true rfl) d_Md_clear_2 (fun H locs hP hD hS => ?_)
  have hP : va_P D vwCl (y_7 y t0 t1 t2 t3 t4 t5 c0 c1 c2 c3 c4 c5 ma ha ex ey dx dy ab be ri o1 o2 f0 f1 f2 f3 f4 f5) H := hP
  have hD : va_D A (y_7 y t0 t1 t2 t3 t4 t5 c0 c1 c2 c3 c4 c5 ma ha ex ey dx dy ab be ri o1 o2 f0 f1 f2 f3 f4 f5) := hD
  refine lv_aload_n hx hb d_Md_clear_5 rfl (lv_at hl 0 rfl) ?_
  refine lv_iconst (v := 0) hx hb d_Md_clear_6 (by decide) ?_
  refine va_put (D := D) (ci := 4) (v := .int 0) (ty := .int) (C := "RayFieldModel") (T := F_Md) (N := 18) hx hb hts in_Md t_Md tok_Md nn_Md hown hK hP hD hS 0 rfl rfl 6 (by decide) (hts _ w_286) (fun _ h9 => h9) rfl (by decide +kernel) rfl rfl (Nat.le_of_ble_eq_true rfl) d_Md_clear_7 (fun H locs hP hD hS => ?_)
  have hP : va_P D vwCl (y_7 y t0 t1 t2 t3 t4 t5 c0 c1 c2 c3 c4 c5 0 ha ex ey dx dy ab be ri o1 o2 f0 f1 f2 f3 f4 f5) H := hP
  have hD : va_D A (y_7 y t0 t1 t2 t3 t4 t5 c0 c1 c2 c3 c4 c5 0 ha ex ey dx dy ab be ri o1 o2 f0 f1 f2 f3 f4 f5) := hD
  refine lv_iconst (v := 0) hx hb d_Md_clear_10 (by decide) ?_
  refine rf_topi nI_0.symm ?_
  refine lv_istore_n (lv' := [(1, .int (nI 0)), (0, .ref y)]) hx hb d_Md_clear_11 rfl hl (by decide) rfl (fun ls hl => ?_)
  refine rf_loop 12 64 (fun i ls H locs k1 k2 => ∃ f01 : Nat → Int32, lv_has ls 2 [(1, .int (nI i)), (0, .ref y)] ∧ va_P D vwCl (y_7 y t0 t1 t2 t3 t4 t5 c0 c1 c2 c3 c4 c5 0 ha ex ey dx dy ab be ri o1 o2 f01 f1 f2 f3 f4 f5) H ∧ va_D A (y_7 y t0 t1 t2 t3 t4 t5 c0 c1 c2 c3 c4 c5 0 ha ex ey dx dy ab be ri o1 o2 f01 f1 f2 f3 f4 f5) ∧ va_S A s.heap H locs ∧ (∀ j, j < i → f01 j = 0) ∧ k1 = 0 ∧ k2 = 0) (fun ls H locs k1 k2 hI => ?_) (fun i ls H locs k1 k2 hi hI hk => ?_) 0 (Nat.zero_le _) ⟨f0, lv_sub hl [0, 1] rfl, hP, hD, hS, fun j hj => absurd hj (Nat.not_lt_zero _), rfl, rfl⟩
  · obtain ⟨f01, hl, hP, hD, hS, hJ, hk1, hk2⟩ := hI
    subst k1
    subst k2
    refine lv_iload_n hx hb d_Md_clear_12 rfl (lv_at hl 0 rfl) ?_
    refine lv_bipush (v := 64) hx hb d_Md_clear_13 (by decide) ?_
    refine rf_topi rfl ?_
    refine lv_icmp_ge (tgt := 31) hx hb d_Md_clear_15 (by decide) (fun c_1 => ?_) (fun c_1 => absurd (nI_le (Nat.le_refl _) (by decide)) c_1)
    exact W.vret hx hb hr (fun t ht hW => ⟨⟨(0, f01, f1, f2, f3, f4, fun _ => none), rfl, ⟨⟨rfl, rfl⟩, rf_YF.none' hJ⟩, by rw [ht]; exact hP, hD⟩, hS.F ht⟩) hS.2.2 d_Md_clear_31
  · obtain ⟨f01, hl, hP, hD, hS, hJ, hk1, hk2⟩ := hI
    subst k1
    subst k2
    refine lv_iload_n hx hb d_Md_clear_12 rfl (lv_at hl 0 rfl) ?_
    refine lv_bipush (v := 64) hx hb d_Md_clear_13 (by decide) ?_
    refine rf_topi rfl ?_
    refine lv_icmp_ge (tgt := 31) hx hb d_Md_clear_15 (by decide) (fun c_2 => absurd c_2 (nI_ge hi (by decide))) (fun c_2 => ?_)
    refine lv_aload_n hx hb d_Md_clear_18 rfl (lv_at hl 1 rfl) ?_
    refine va_get (D := D) (ci := 4) (v := .ref t0) (C := "RayFieldModel") (T := F_Md) (N := 18) hx hb hts in_Md hown hK hP 0 rfl rfl 1 (by decide) (hts _ w_281) (fun _ h9 => h9) rfl d_Md_clear_19 ?_
    refine lv_iload_n hx hb d_Md_clear_22 rfl (lv_at hl 0 rfl) ?_
    refine lv_iconst (v := 0) hx hb d_Md_clear_23 (by decide) ?_
    refine rf_zast hx hb hK hP hD hS 1 0 rfl rfl hi (by decide) rfl d_Md_clear_24 (fun H locs hP hD hS => ?_)
    have hP : va_P D vwCl (y_7 y t0 t1 t2 t3 t4 t5 c0 c1 c2 c3 c4 c5 0 ha ex ey dx dy ab be ri o1 o2 (upd f01 i 0) f1 f2 f3 f4 f5) H := hP
    have hD : va_D A (y_7 y t0 t1 t2 t3 t4 t5 c0 c1 c2 c3 c4 c5 0 ha ex ey dx dy ab be ri o1 o2 (upd f01 i 0) f1 f2 f3 f4 f5) := hD
    refine lv_iinc (v := (nI (i + 1))) (lv' := [(1, .int (nI (i + 1))), (0, .ref y)]) hx hb d_Md_clear_25 hl (k := 0) rfl (nI_1 i) (by decide) rfl (fun ls hl => ?_)
    refine lv_goto (tgt := 12) hx hb d_Md_clear_28 (by decide) ?_
    exact hk _ _ _ _ _ ⟨upd f01 i 0, lv_sub hl [0, 1] rfl, hP, hD, hS, fun j hj => by by_cases c : j = i <;> first | (subst c; exact pk_us) | (rw [pk_un c]; exact hJ j (by omega)), rfl, rfl⟩
set_option maxHeartbeats 4000000 in
set_option maxRecDepth 100000 in
theorem c_Md_ray (l : Launch) (D : va_G) (y t0 t1 t2 t3 t4 t5 : Nat) (c0 c1 c2 c3 c4 c5 : ClassId) (ma ha ex ey dx dy : Int32) (ab be : Int64) (ri : Int32) (o1 o2 : Int64) (f0 f1 f2 f3 f4 f5 : Nat → Int32) (a1 a2 b1 b2 : Int32) (sz : Nat) : Met l y_Md_ray (.code y_Md_ray b_Md_ray 5 (some (.boolean)) :: BIG) { frames := 1, cells := 0, slots := 0, locals := 40 } (rf_Pc D (y_t c0 c1 c2 c3 c4 c5) [.ref y, .int a1, .int a2, .int b1, .int b2] (fun h => h.size = sz ∧ va_P D vwCl (y_7 y t0 t1 t2 t3 t4 t5 c0 c1 c2 c3 c4 c5 ma ha ex ey dx dy ab be ri o1 o2 f0 f1 f2 f3 f4 f5) h ∧ va_D (fun _ => True) (y_7 y t0 t1 t2 t3 t4 t5 c0 c1 c2 c3 c4 c5 ma ha ex ey dx dy ab be ri o1 o2 f0 f1 f2 f3 f4 f5))) (va_Qi (S := Int32 × Int32 × Int32 × Int32 × Int32) (fun r u => ((m_place a1 a2 4000 ∧ m_place b1 b2 20000 ∧ ¬ (b1 = 0 ∧ b2 = 0)) ∧ r = 1 ∧ u.1 = 1 ∧ u.2 = (a1, a2, b1, b2)) ∨ (¬ (m_place a1 a2 4000 ∧ m_place b1 b2 20000 ∧ ¬ (b1 = 0 ∧ b2 = 0)) ∧ r = 0 ∧ u.1 = ha ∧ u.2 = (ex, ey, dx, dy))) (fun u t => va_P D vwCl (y_7 y t0 t1 t2 t3 t4 t5 c0 c1 c2 c3 c4 c5 ma u.1 u.2.1 u.2.2.1 u.2.2.2.1 u.2.2.2.2 ab be ri o1 o2 f0 f1 f2 f3 f4 f5) t.heap ∧ va_D (va_A (y_7 y t0 t1 t2 t3 t4 t5 c0 c1 c2 c3 c4 c5 ma ha ex ey dx dy ab be ri o1 o2 f0 f1 f2 f3 f4 f5) sz) (y_7 y t0 t1 t2 t3 t4 t5 c0 c1 c2 c3 c4 c5 ma u.1 u.2.1 u.2.2.1 u.2.2.2.1 u.2.2.2.2 ab be ri o1 o2 f0 f1 f2 f3 f4 f5)) (va_A (y_7 y t0 t1 t2 t3 t4 t5 c0 c1 c2 c3 c4 c5 ma ha ex ey dx dy ab be ri o1 o2 f0 f1 f2 f3 f4 f5) sz)) 0 0 (va_A (y_7 y t0 t1 t2 t3 t4 t5 c0 c1 c2 c3 c4 c5 ma ha ex ey dx dy ab be ri o1 o2 f0 f1 f2 f3 f4 f5) sz) := by
  refine Met.ofW (cc := b_Md_ray) (maxL := 5) (ret := (some (.boolean))) (by decide) rfl ?_
  intro p e s m args below meth c s₁ B hml hv
  obtain ⟨rfl, hE, hP⟩ := hv
  have hx := B.exec
  have hb := B.bytes
  have hr := B.returns
  have hts : ∀ w ∈ BIG, w.before [.ref y, .int a1, .int a2, .int b1, .int b2].toArray s = true := fun w h => atoms_spec (ws := .code y_Md_ray b_Md_ray 5 (some (.boolean)) :: BIG) B.pre w (List.mem_cons_of_mem _ h)
  have hown : s.vm.findClass "RayFieldModel" = some m.cls := findClass_of_methodNamed B.named
  have hlocks := B.notSynchronized
  have hK := hE.2
  have S0 : CallFix p m c b_Md_ray 5 s [.ref y, .int a1, .int a2, .int b1, .int b2].toArray BIG "RayFieldModel" := ⟨hx, hb, hml, hown, hts⟩
  have hl := lv_entry ([.ref y, .int a1, .int a2, .int b1, .int b2]) (n := 5) (Nat.le_of_ble_eq_true rfl)
  rw [lg_entry_eq]
  generalize (lg_sl ([.ref y, .int a1, .int a2, .int b1, .int b2]) ++ List.replicate (5 - (lg_sl ([.ref y, .int a1, .int a2, .int b1, .int b2])).length) Slot.unset).toArray = ls at hl ⊢
  have hl : lv_has ls 5 [(0, .ref y), (1, .int a1), (2, .int a2), (3, .int b1), (4, .int b2)] := hl
  obtain ⟨hsz, hP, hD0⟩ := hP
  subst hsz
  have hD := hD0.self (sz := s.heap.size)
  generalize hAe : va_A (y_7 y t0 t1 t2 t3 t4 t5 c0 c1 c2 c3 c4 c5 ma ha ex ey dx dy ab be ri o1 o2 f0 f1 f2 f3 f4 f5) s.heap.size = A at hD ⊢
  have hA : ∀ q : Nat, s.heap.size ≤ q → A q := fun q h => by rw [← hAe]; exact Or.inr h
  obtain ⟨H, hH⟩ : ∃ H : Heap, H = s.heap := ⟨_, rfl⟩
  refine rf_heap hH ?_
  have hS : va_S A s.heap H [] := by rw [hH]; exact va_S.rf
  have hP : va_P D vwCl (y_7 y t0 t1 t2 t3 t4 t5 c0 c1 c2 c3 c4 c5 ma ha ex ey dx dy ab be ri o1 o2 f0 f1 f2 f3 f4 f5) H := by rw [hH]; exact hP
  refine lv_aload_n hx hb d_Md_ray_0 rfl (lv_at hl 0 rfl) ?_
  refine lv_iconst (v := 0) hx hb d_Md_ray_1 (by decide) ?_
  refine va_put (D := D) (ci := 4) (v := .int 0) (ty := .int) (C := "RayFieldModel") (T := F_Md) (N := 18) hx hb hts in_Md t_Md tok_Md nn_Md hown hK hP hD hS 0 rfl rfl 0 (by decide) (hts _ w_280) (fun _ h9 => h9) rfl (by decide +kernel) rfl rfl (Nat.le_of_ble_eq_true rfl) d_Md_ray_2 (fun H locs hP hD hS => ?_)
  have hP : va_P D vwCl (y_7 y t0 t1 t2 t3 t4 t5 c0 c1 c2 c3 c4 c5 ma ha ex ey dx dy ab be ri o1 o2 f0 f1 f2 f3 f4 f5) H := hP
  have hD : va_D A (y_7 y t0 t1 t2 t3 t4 t5 c0 c1 c2 c3 c4 c5 ma ha ex ey dx dy ab be ri o1 o2 f0 f1 f2 f3 f4 f5) := hD
  refine lv_iload_n hx hb d_Md_ray_5 rfl (lv_at hl 1 rfl) ?_
  refine lv_sipush (v := 4000) hx hb d_Md_ray_6 (by decide) ?_
  refine vp_callSi (va_Run.run (rf_runS (As := [.int a1, .int 4000]) (rest := []) S0 ml_Md_48 (c_Md_isIn l D (y_t c0 c1 c2 c3 c4 c5) a1 4000) hE trivial ⟨rfl, rfl, Nat.le_of_ble_eq_true rfl, Nat.le_of_ble_eq_true rfl⟩ rfl hl.1 rfl (Nat.le_of_ble_eq_true rfl) d_Md_ray_9 ⟨Nat.zero_le _, Nat.zero_le _⟩)) (fun r_1 h_2 => ?_)
  refine lv_if_eq (tgt := 55) hx hb d_Md_ray_12 (by decide) (fun c_3 => ?_) (fun c_3 => ?_)
  · refine lv_iconst (v := 0) hx hb d_Md_ray_55 (by decide) ?_
    exact W.zret (v := 0) (ty := .boolean) hx hb hr rfl (fun t ht hW => ⟨⟨_, (ha, ex, ey, dx, dy), rfl, (Or.inr ⟨fun h => (h_2.f c_3) h.1.1, rfl, rfl, rfl⟩), by rw [ht]; exact hP, hD⟩, hS.F ht⟩) hS.2.2 d_Md_ray_56
  · refine lv_iload_n hx hb d_Md_ray_15 rfl (lv_at hl 2 rfl) ?_
    refine lv_sipush (v := 4000) hx hb d_Md_ray_16 (by decide) ?_
    refine vp_callSi (va_Run.run (rf_runS (As := [.int a2, .int 4000]) (rest := []) S0 ml_Md_48 (c_Md_isIn l D (y_t c0 c1 c2 c3 c4 c5) a2 4000) hE trivial ⟨rfl, rfl, Nat.le_of_ble_eq_true rfl, Nat.le_of_ble_eq_true rfl⟩ rfl hl.1 rfl (Nat.le_of_ble_eq_true rfl) d_Md_ray_19 ⟨Nat.zero_le _, Nat.zero_le _⟩)) (fun r_4 h_5 => ?_)
    refine lv_if_eq (tgt := 55) hx hb d_Md_ray_22 (by decide) (fun c_6 => ?_) (fun c_6 => ?_)
    · refine lv_iconst (v := 0) hx hb d_Md_ray_55 (by decide) ?_
      exact W.zret (v := 0) (ty := .boolean) hx hb hr rfl (fun t ht hW => ⟨⟨_, (ha, ex, ey, dx, dy), rfl, (Or.inr ⟨fun h => (h_5.f c_6) h.1.2, rfl, rfl, rfl⟩), by rw [ht]; exact hP, hD⟩, hS.F ht⟩) hS.2.2 d_Md_ray_56
    · refine lv_iload_n hx hb d_Md_ray_25 rfl (lv_at hl 3 rfl) ?_
      refine lv_sipush (v := 20000) hx hb d_Md_ray_26 (by decide) ?_
      refine vp_callSi (va_Run.run (rf_runS (As := [.int b1, .int 20000]) (rest := []) S0 ml_Md_48 (c_Md_isIn l D (y_t c0 c1 c2 c3 c4 c5) b1 20000) hE trivial ⟨rfl, rfl, Nat.le_of_ble_eq_true rfl, Nat.le_of_ble_eq_true rfl⟩ rfl hl.1 rfl (Nat.le_of_ble_eq_true rfl) d_Md_ray_29 ⟨Nat.zero_le _, Nat.zero_le _⟩)) (fun r_7 h_8 => ?_)
      refine lv_if_eq (tgt := 55) hx hb d_Md_ray_32 (by decide) (fun c_9 => ?_) (fun c_9 => ?_)
      · refine lv_iconst (v := 0) hx hb d_Md_ray_55 (by decide) ?_
        exact W.zret (v := 0) (ty := .boolean) hx hb hr rfl (fun t ht hW => ⟨⟨_, (ha, ex, ey, dx, dy), rfl, (Or.inr ⟨fun h => (h_8.f c_9) h.2.1.1, rfl, rfl, rfl⟩), by rw [ht]; exact hP, hD⟩, hS.F ht⟩) hS.2.2 d_Md_ray_56
      · refine lv_iload hx hb d_Md_ray_35 (lv_at hl 4 rfl) ?_
        refine lv_sipush (v := 20000) hx hb d_Md_ray_37 (by decide) ?_
        refine vp_callSi (va_Run.run (rf_runS (As := [.int b2, .int 20000]) (rest := []) S0 ml_Md_48 (c_Md_isIn l D (y_t c0 c1 c2 c3 c4 c5) b2 20000) hE trivial ⟨rfl, rfl, Nat.le_of_ble_eq_true rfl, Nat.le_of_ble_eq_true rfl⟩ rfl hl.1 rfl (Nat.le_of_ble_eq_true rfl) d_Md_ray_40 ⟨Nat.zero_le _, Nat.zero_le _⟩)) (fun r_10 h_11 => ?_)
        refine lv_if_eq (tgt := 55) hx hb d_Md_ray_43 (by decide) (fun c_12 => ?_) (fun c_12 => ?_)
        · refine lv_iconst (v := 0) hx hb d_Md_ray_55 (by decide) ?_
          exact W.zret (v := 0) (ty := .boolean) hx hb hr rfl (fun t ht hW => ⟨⟨_, (ha, ex, ey, dx, dy), rfl, (Or.inr ⟨fun h => (h_11.f c_12) h.2.1.2, rfl, rfl, rfl⟩), by rw [ht]; exact hP, hD⟩, hS.F ht⟩) hS.2.2 d_Md_ray_56
        · refine lv_iload_n hx hb d_Md_ray_46 rfl (lv_at hl 3 rfl) ?_
          refine lv_if_ne (tgt := 57) hx hb d_Md_ray_47 (by decide) (fun c_13 => ?_) (fun c_13 => ?_)
          · refine lv_aload_n hx hb d_Md_ray_57 rfl (lv_at hl 0 rfl) ?_
            refine lv_iconst (v := 1) hx hb d_Md_ray_58 (by decide) ?_
            refine va_put (D := D) (ci := 4) (v := .int 1) (ty := .boolean) (C := "RayFieldModel") (T := F_Md) (N := 18) hx hb hts in_Md t_Md tok_Md nn_Md hown hK hP hD hS 0 rfl rfl 7 (by decide) (hts _ w_287) (fun _ h9 => h9) rfl (by decide +kernel) rfl rfl (Nat.le_of_ble_eq_true rfl) d_Md_ray_59 (fun H locs hP hD hS => ?_)
            have hP : va_P D vwCl (y_7 y t0 t1 t2 t3 t4 t5 c0 c1 c2 c3 c4 c5 ma 1 ex ey dx dy ab be ri o1 o2 f0 f1 f2 f3 f4 f5) H := hP
            have hD : va_D A (y_7 y t0 t1 t2 t3 t4 t5 c0 c1 c2 c3 c4 c5 ma 1 ex ey dx dy ab be ri o1 o2 f0 f1 f2 f3 f4 f5) := hD
            refine lv_aload_n hx hb d_Md_ray_62 rfl (lv_at hl 0 rfl) ?_
            refine lv_iload_n hx hb d_Md_ray_63 rfl (lv_at hl 1 rfl) ?_
            refine va_put (D := D) (ci := 4) (v := .int a1) (ty := .int) (C := "RayFieldModel") (T := F_Md) (N := 18) hx hb hts in_Md t_Md tok_Md nn_Md hown hK hP hD hS 0 rfl rfl 8 (by decide) (hts _ w_288) (fun _ h9 => h9) rfl (by decide +kernel) rfl rfl (Nat.le_of_ble_eq_true rfl) d_Md_ray_64 (fun H locs hP hD hS => ?_)
            have hP : va_P D vwCl (y_7 y t0 t1 t2 t3 t4 t5 c0 c1 c2 c3 c4 c5 ma 1 a1 ey dx dy ab be ri o1 o2 f0 f1 f2 f3 f4 f5) H := hP
            have hD : va_D A (y_7 y t0 t1 t2 t3 t4 t5 c0 c1 c2 c3 c4 c5 ma 1 a1 ey dx dy ab be ri o1 o2 f0 f1 f2 f3 f4 f5) := hD
            refine lv_aload_n hx hb d_Md_ray_67 rfl (lv_at hl 0 rfl) ?_
            refine lv_iload_n hx hb d_Md_ray_68 rfl (lv_at hl 2 rfl) ?_
            refine va_put (D := D) (ci := 4) (v := .int a2) (ty := .int) (C := "RayFieldModel") (T := F_Md) (N := 18) hx hb hts in_Md t_Md tok_Md nn_Md hown hK hP hD hS 0 rfl rfl 9 (by decide) (hts _ w_289) (fun _ h9 => h9) rfl (by decide +kernel) rfl rfl (Nat.le_of_ble_eq_true rfl) d_Md_ray_69 (fun H locs hP hD hS => ?_)
            have hP : va_P D vwCl (y_7 y t0 t1 t2 t3 t4 t5 c0 c1 c2 c3 c4 c5 ma 1 a1 a2 dx dy ab be ri o1 o2 f0 f1 f2 f3 f4 f5) H := hP
            have hD : va_D A (y_7 y t0 t1 t2 t3 t4 t5 c0 c1 c2 c3 c4 c5 ma 1 a1 a2 dx dy ab be ri o1 o2 f0 f1 f2 f3 f4 f5) := hD
            refine lv_aload_n hx hb d_Md_ray_72 rfl (lv_at hl 0 rfl) ?_
            refine lv_iload_n hx hb d_Md_ray_73 rfl (lv_at hl 3 rfl) ?_
            refine va_put (D := D) (ci := 4) (v := .int b1) (ty := .int) (C := "RayFieldModel") (T := F_Md) (N := 18) hx hb hts in_Md t_Md tok_Md nn_Md hown hK hP hD hS 0 rfl rfl 10 (by decide) (hts _ w_290) (fun _ h9 => h9) rfl (by decide +kernel) rfl rfl (Nat.le_of_ble_eq_true rfl) d_Md_ray_74 (fun H locs hP hD hS => ?_)
            have hP : va_P D vwCl (y_7 y t0 t1 t2 t3 t4 t5 c0 c1 c2 c3 c4 c5 ma 1 a1 a2 b1 dy ab be ri o1 o2 f0 f1 f2 f3 f4 f5) H := hP
            have hD : va_D A (y_7 y t0 t1 t2 t3 t4 t5 c0 c1 c2 c3 c4 c5 ma 1 a1 a2 b1 dy ab be ri o1 o2 f0 f1 f2 f3 f4 f5) := hD
            refine lv_aload_n hx hb d_Md_ray_77 rfl (lv_at hl 0 rfl) ?_
            refine lv_iload hx hb d_Md_ray_78 (lv_at hl 4 rfl) ?_
            refine va_put (D := D) (ci := 4) (v := .int b2) (ty := .int) (C := "RayFieldModel") (T := F_Md) (N := 18) hx hb hts in_Md t_Md tok_Md nn_Md hown hK hP hD hS 0 rfl rfl 11 (by decide) (hts _ w_291) (fun _ h9 => h9) rfl (by decide +kernel) rfl rfl (Nat.le_of_ble_eq_true rfl) d_Md_ray_80 (fun H locs hP hD hS => ?_)
            have hP : va_P D vwCl (y_7 y t0 t1 t2 t3 t4 t5 c0 c1 c2 c3 c4 c5 ma 1 a1 a2 b1 b2 ab be ri o1 o2 f0 f1 f2 f3 f4 f5) H := hP
            have hD : va_D A (y_7 y t0 t1 t2 t3 t4 t5 c0 c1 c2 c3 c4 c5 ma 1 a1 a2 b1 b2 ab be ri o1 o2 f0 f1 f2 f3 f4 f5) := hD
            refine lv_iconst (v := 1) hx hb d_Md_ray_83 (by decide) ?_
            exact W.zret (v := 1) (ty := .boolean) hx hb hr rfl (fun t ht hW => ⟨⟨_, (1, a1, a2, b1, b2), rfl, (Or.inl ⟨⟨⟨(h_2.t c_3), (h_5.t c_6)⟩, ⟨(h_8.t c_9), (h_11.t c_12)⟩, (fun z => c_13 z.1)⟩, rfl, rfl, rfl⟩), by rw [ht]; exact hP, hD⟩, hS.F ht⟩) hS.2.2 d_Md_ray_84
          · refine lv_iload hx hb d_Md_ray_50 (lv_at hl 4 rfl) ?_
            refine lv_if_ne (tgt := 57) hx hb d_Md_ray_52 (by decide) (fun c_14 => ?_) (fun c_14 => ?_)
            · refine lv_aload_n hx hb d_Md_ray_57 rfl (lv_at hl 0 rfl) ?_
              refine lv_iconst (v := 1) hx hb d_Md_ray_58 (by decide) ?_
              refine va_put (D := D) (ci := 4) (v := .int 1) (ty := .boolean) (C := "RayFieldModel") (T := F_Md) (N := 18) hx hb hts in_Md t_Md tok_Md nn_Md hown hK hP hD hS 0 rfl rfl 7 (by decide) (hts _ w_287) (fun _ h9 => h9) rfl (by decide +kernel) rfl rfl (Nat.le_of_ble_eq_true rfl) d_Md_ray_59 (fun H locs hP hD hS => ?_)
              have hP : va_P D vwCl (y_7 y t0 t1 t2 t3 t4 t5 c0 c1 c2 c3 c4 c5 ma 1 ex ey dx dy ab be ri o1 o2 f0 f1 f2 f3 f4 f5) H := hP
              have hD : va_D A (y_7 y t0 t1 t2 t3 t4 t5 c0 c1 c2 c3 c4 c5 ma 1 ex ey dx dy ab be ri o1 o2 f0 f1 f2 f3 f4 f5) := hD
              refine lv_aload_n hx hb d_Md_ray_62 rfl (lv_at hl 0 rfl) ?_
              refine lv_iload_n hx hb d_Md_ray_63 rfl (lv_at hl 1 rfl) ?_
              refine va_put (D := D) (ci := 4) (v := .int a1) (ty := .int) (C := "RayFieldModel") (T := F_Md) (N := 18) hx hb hts in_Md t_Md tok_Md nn_Md hown hK hP hD hS 0 rfl rfl 8 (by decide) (hts _ w_288) (fun _ h9 => h9) rfl (by decide +kernel) rfl rfl (Nat.le_of_ble_eq_true rfl) d_Md_ray_64 (fun H locs hP hD hS => ?_)
              have hP : va_P D vwCl (y_7 y t0 t1 t2 t3 t4 t5 c0 c1 c2 c3 c4 c5 ma 1 a1 ey dx dy ab be ri o1 o2 f0 f1 f2 f3 f4 f5) H := hP
              have hD : va_D A (y_7 y t0 t1 t2 t3 t4 t5 c0 c1 c2 c3 c4 c5 ma 1 a1 ey dx dy ab be ri o1 o2 f0 f1 f2 f3 f4 f5) := hD
              refine lv_aload_n hx hb d_Md_ray_67 rfl (lv_at hl 0 rfl) ?_
              refine lv_iload_n hx hb d_Md_ray_68 rfl (lv_at hl 2 rfl) ?_
              refine va_put (D := D) (ci := 4) (v := .int a2) (ty := .int) (C := "RayFieldModel") (T := F_Md) (N := 18) hx hb hts in_Md t_Md tok_Md nn_Md hown hK hP hD hS 0 rfl rfl 9 (by decide) (hts _ w_289) (fun _ h9 => h9) rfl (by decide +kernel) rfl rfl (Nat.le_of_ble_eq_true rfl) d_Md_ray_69 (fun H locs hP hD hS => ?_)
              have hP : va_P D vwCl (y_7 y t0 t1 t2 t3 t4 t5 c0 c1 c2 c3 c4 c5 ma 1 a1 a2 dx dy ab be ri o1 o2 f0 f1 f2 f3 f4 f5) H := hP
              have hD : va_D A (y_7 y t0 t1 t2 t3 t4 t5 c0 c1 c2 c3 c4 c5 ma 1 a1 a2 dx dy ab be ri o1 o2 f0 f1 f2 f3 f4 f5) := hD
              refine lv_aload_n hx hb d_Md_ray_72 rfl (lv_at hl 0 rfl) ?_
              refine lv_iload_n hx hb d_Md_ray_73 rfl (lv_at hl 3 rfl) ?_
              refine va_put (D := D) (ci := 4) (v := .int b1) (ty := .int) (C := "RayFieldModel") (T := F_Md) (N := 18) hx hb hts in_Md t_Md tok_Md nn_Md hown hK hP hD hS 0 rfl rfl 10 (by decide) (hts _ w_290) (fun _ h9 => h9) rfl (by decide +kernel) rfl rfl (Nat.le_of_ble_eq_true rfl) d_Md_ray_74 (fun H locs hP hD hS => ?_)
              have hP : va_P D vwCl (y_7 y t0 t1 t2 t3 t4 t5 c0 c1 c2 c3 c4 c5 ma 1 a1 a2 b1 dy ab be ri o1 o2 f0 f1 f2 f3 f4 f5) H := hP
              have hD : va_D A (y_7 y t0 t1 t2 t3 t4 t5 c0 c1 c2 c3 c4 c5 ma 1 a1 a2 b1 dy ab be ri o1 o2 f0 f1 f2 f3 f4 f5) := hD
              refine lv_aload_n hx hb d_Md_ray_77 rfl (lv_at hl 0 rfl) ?_
              refine lv_iload hx hb d_Md_ray_78 (lv_at hl 4 rfl) ?_
              refine va_put (D := D) (ci := 4) (v := .int b2) (ty := .int) (C := "RayFieldModel") (T := F_Md) (N := 18) hx hb hts in_Md t_Md tok_Md nn_Md hown hK hP hD hS 0 rfl rfl 11 (by decide) (hts _ w_291) (fun _ h9 => h9) rfl (by decide +kernel) rfl rfl (Nat.le_of_ble_eq_true rfl) d_Md_ray_80 (fun H locs hP hD hS => ?_)
              have hP : va_P D vwCl (y_7 y t0 t1 t2 t3 t4 t5 c0 c1 c2 c3 c4 c5 ma 1 a1 a2 b1 b2 ab be ri o1 o2 f0 f1 f2 f3 f4 f5) H := hP
              have hD : va_D A (y_7 y t0 t1 t2 t3 t4 t5 c0 c1 c2 c3 c4 c5 ma 1 a1 a2 b1 b2 ab be ri o1 o2 f0 f1 f2 f3 f4 f5) := hD
              refine lv_iconst (v := 1) hx hb d_Md_ray_83 (by decide) ?_
              exact W.zret (v := 1) (ty := .boolean) hx hb hr rfl (fun t ht hW => ⟨⟨_, (1, a1, a2, b1, b2), rfl, (Or.inl ⟨⟨⟨(h_2.t c_3), (h_5.t c_6)⟩, ⟨(h_8.t c_9), (h_11.t c_12)⟩, (fun z => c_14 z.2)⟩, rfl, rfl, rfl⟩), by rw [ht]; exact hP, hD⟩, hS.F ht⟩) hS.2.2 d_Md_ray_84
            · refine lv_iconst (v := 0) hx hb d_Md_ray_55 (by decide) ?_
              exact W.zret (v := 0) (ty := .boolean) hx hb hr rfl (fun t ht hW => ⟨⟨_, (ha, ex, ey, dx, dy), rfl, (Or.inr ⟨fun h => h.2.2 ⟨c_13, c_14⟩, rfl, rfl, rfl⟩), by rw [ht]; exact hP, hD⟩, hS.F ht⟩) hS.2.2 d_Md_ray_56
