set_option maxHeartbeats 4000000 in
set_option maxRecDepth 100000 in
theorem c_Md_meets (l : Launch) (D : va_G) (y t0 t1 t2 t3 t4 t5 : Nat) (c0 c1 c2 c3 c4 c5 : ClassId) (ma ha ex ey dx dy : Int32) (ab be : Int64) (ri : Int32) (o1 o2 : Int64) (f0 f1 f2 f3 f4 f5 : Nat → Int32) (k : Nat) (hk : k < 64) (sz : Nat) : Met l y_Md_meets (.code y_Md_meets b_Md_meets 2 (some (.boolean)) :: BIG) { frames := 1, cells := 0, slots := 0, locals := 40 } (rf_Pc D (y_t c0 c1 c2 c3 c4 c5) [.ref y, .int (nI k)] (fun h => h.size = sz ∧ va_P D vwCl (y_7 y t0 t1 t2 t3 t4 t5 c0 c1 c2 c3 c4 c5 ma ha ex ey dx dy ab be ri o1 o2 f0 f1 f2 f3 f4 f5) h ∧ va_D (fun _ => True) (y_7 y t0 t1 t2 t3 t4 t5 c0 c1 c2 c3 c4 c5 ma ha ex ey dx dy ab be ri o1 o2 f0 f1 f2 f3 f4 f5))) (va_Qi (S := Unit) (fun r _ => rf_tf r (k_met (f1 k, f2 k, f3 k, f4 k) (ex, ey, dx, dy))) (fun u t => va_P D vwCl (y_7 y t0 t1 t2 t3 t4 t5 c0 c1 c2 c3 c4 c5 ma ha ex ey dx dy (k_up (f1 k, f2 k, f3 k, f4 k) (ex, ey, dx, dy)) (k_dn (f1 k, f2 k, f3 k, f4 k) (ex, ey, dx, dy)) (k_ri (f1 k, f2 k, f3 k, f4 k) (ex, ey, dx, dy)) (m_a (f1 k, f2 k, f3 k, f4 k) (ex, ey, dx, dy)) (m_b (f1 k, f2 k, f3 k, f4 k) (ex, ey, dx, dy)) f0 f1 f2 f3 f4 f5) t.heap ∧ va_D (va_A (y_7 y t0 t1 t2 t3 t4 t5 c0 c1 c2 c3 c4 c5 ma ha ex ey dx dy ab be ri o1 o2 f0 f1 f2 f3 f4 f5) sz) (y_7 y t0 t1 t2 t3 t4 t5 c0 c1 c2 c3 c4 c5 ma ha ex ey dx dy (k_up (f1 k, f2 k, f3 k, f4 k) (ex, ey, dx, dy)) (k_dn (f1 k, f2 k, f3 k, f4 k) (ex, ey, dx, dy)) (k_ri (f1 k, f2 k, f3 k, f4 k) (ex, ey, dx, dy)) (m_a (f1 k, f2 k, f3 k, f4 k) (ex, ey, dx, dy)) (m_b (f1 k, f2 k, f3 k, f4 k) (ex, ey, dx, dy)) f0 f1 f2 f3 f4 f5)) (va_A (y_7 y t0 t1 t2 t3 t4 t5 c0 c1 c2 c3 c4 c5 ma ha ex ey dx dy ab be ri o1 o2 f0 f1 f2 f3 f4 f5) sz)) 0 0 (va_A (y_7 y t0 t1 t2 t3 t4 t5 c0 c1 c2 c3 c4 c5 ma ha ex ey dx dy ab be ri o1 o2 f0 f1 f2 f3 f4 f5) sz) := by
  refine Met.ofW (cc := b_Md_meets) (maxL := 2) (ret := (some (.boolean))) (by decide) rfl ?_
  intro p e s m args below meth c s₁ B hml hv
  obtain ⟨rfl, hE, hP⟩ := hv
  have hx := B.exec
  have hb := B.bytes
  have hr := B.returns
  have hts : ∀ w ∈ BIG, w.before [.ref y, .int (nI k)].toArray s = true := fun w h => atoms_spec (ws := .code y_Md_meets b_Md_meets 2 (some (.boolean)) :: BIG) B.pre w (List.mem_cons_of_mem _ h)
  have hown : s.vm.findClass "RayFieldModel" = some m.cls := findClass_of_methodNamed B.named
  have hlocks := B.notSynchronized
  have hK := hE.2
  have S0 : CallFix p m c b_Md_meets 2 s [.ref y, .int (nI k)].toArray BIG "RayFieldModel" := ⟨hx, hb, hml, hown, hts⟩
  have hl := lv_entry ([.ref y, .int (nI k)]) (n := 2) (Nat.le_of_ble_eq_true rfl)
  rw [lg_entry_eq]
  generalize (lg_sl ([.ref y, .int (nI k)]) ++ List.replicate (2 - (lg_sl ([.ref y, .int (nI k)])).length) Slot.unset).toArray = ls at hl ⊢
  have hl : lv_has ls 2 [(0, .ref y), (1, .int (nI k))] := hl
  obtain ⟨hsz, hP, hD0⟩ := hP
  subst hsz
  have hD := hD0.self (sz := s.heap.size)
  generalize hAe : va_A (y_7 y t0 t1 t2 t3 t4 t5 c0 c1 c2 c3 c4 c5 ma ha ex ey dx dy ab be ri o1 o2 f0 f1 f2 f3 f4 f5) s.heap.size = A at hD ⊢
  have hA : ∀ q : Nat, s.heap.size ≤ q → A q := fun q h => by rw [← hAe]; exact Or.inr h
  obtain ⟨H, hH⟩ : ∃ H : Heap, H = s.heap := ⟨_, rfl⟩
  refine rf_heap hH ?_
  have hS : va_S A s.heap H [] := by rw [hH]; exact va_S.rf
  have hP : va_P D vwCl (y_7 y t0 t1 t2 t3 t4 t5 c0 c1 c2 c3 c4 c5 ma ha ex ey dx dy ab be ri o1 o2 f0 f1 f2 f3 f4 f5) H := by rw [hH]; exact hP
  refine lv_aload_n hx hb d_Md_meets_0 rfl (lv_at hl 0 rfl) ?_
  refine lv_aload_n hx hb d_Md_meets_1 rfl (lv_at hl 0 rfl) ?_
  refine va_get (D := D) (ci := 4) (v := .int dx) (C := "RayFieldModel") (T := F_Md) (N := 18) hx hb hts in_Md hown hK hP 0 rfl rfl 10 (by decide) (hts _ w_290) (fun _ h9 => h9) rfl d_Md_meets_2 ?_
  refine lv_i2l hx hb d_Md_meets_5 rfl ?_
  refine lv_aload_n hx hb d_Md_meets_6 rfl (lv_at hl 0 rfl) ?_
  refine va_get (D := D) (ci := 4) (v := .int dy) (C := "RayFieldModel") (T := F_Md) (N := 18) hx hb hts in_Md hown hK hP 0 rfl rfl 11 (by decide) (hts _ w_291) (fun _ h9 => h9) rfl d_Md_meets_7 ?_
  refine lv_i2l hx hb d_Md_meets_10 rfl ?_
  refine lv_aload_n hx hb d_Md_meets_11 rfl (lv_at hl 0 rfl) ?_
  refine va_get (D := D) (ci := 4) (v := .ref t1) (C := "RayFieldModel") (T := F_Md) (N := 18) hx hb hts in_Md hown hK hP 0 rfl rfl 2 (by decide) (hts _ w_282) (fun _ h9 => h9) rfl d_Md_meets_12 ?_
  refine lv_iload_n hx hb d_Md_meets_15 rfl (lv_at hl 1 rfl) ?_
  refine rf_iald hx hb hK hP 2 1 rfl rfl hk (by decide) d_Md_meets_16 ?_
  refine lv_aload_n hx hb d_Md_meets_17 rfl (lv_at hl 0 rfl) ?_
  refine va_get (D := D) (ci := 4) (v := .int ex) (C := "RayFieldModel") (T := F_Md) (N := 18) hx hb hts in_Md hown hK hP 0 rfl rfl 8 (by decide) (hts _ w_288) (fun _ h9 => h9) rfl d_Md_meets_18 ?_
  refine lv_isub hx hb d_Md_meets_21 ?_
  refine lv_i2l hx hb d_Md_meets_22 rfl ?_
  refine lv_aload_n hx hb d_Md_meets_23 rfl (lv_at hl 0 rfl) ?_
  refine va_get (D := D) (ci := 4) (v := .ref t2) (C := "RayFieldModel") (T := F_Md) (N := 18) hx hb hts in_Md hown hK hP 0 rfl rfl 3 (by decide) (hts _ w_283) (fun _ h9 => h9) rfl d_Md_meets_24 ?_
  refine lv_iload_n hx hb d_Md_meets_27 rfl (lv_at hl 1 rfl) ?_
  refine rf_iald hx hb hK hP 3 2 rfl rfl hk (by decide) d_Md_meets_28 ?_
  refine lv_aload_n hx hb d_Md_meets_29 rfl (lv_at hl 0 rfl) ?_
  refine va_get (D := D) (ci := 4) (v := .int ey) (C := "RayFieldModel") (T := F_Md) (N := 18) hx hb hts in_Md hown hK hP 0 rfl rfl 9 (by decide) (hts _ w_289) (fun _ h9 => h9) rfl d_Md_meets_30 ?_
  refine lv_isub hx hb d_Md_meets_33 ?_
  refine lv_i2l hx hb d_Md_meets_34 rfl ?_
  refine vp_callSl (va_Run.run (rf_runS (As := [.long dx.toInt64, .long dy.toInt64, .long (((f1 k) - ex).toInt64), .long (((f2 k) - ey).toInt64)]) (rest := [.ref y]) S0 ml_Md_33 (c_Md_cross l D (y_t c0 c1 c2 c3 c4 c5) dx.toInt64 dy.toInt64 (((f1 k) - ex).toInt64) (((f2 k) - ey).toInt64)) hE trivial ⟨rfl, rfl, Nat.le_of_ble_eq_true rfl, Nat.le_of_ble_eq_true rfl⟩ rfl hl.1 rfl (Nat.le_of_ble_eq_true rfl) d_Md_meets_35 ⟨Nat.zero_le _, Nat.zero_le _⟩)) (fun r_1 h_2 => ?_)
  subst h_2
  refine rf_topl (y := m_a (f1 k, f2 k, f3 k, f4 k) (ex, ey, dx, dy)) rfl ?_
  refine va_put (D := D) (ci := 4) (v := .long (m_a (f1 k, f2 k, f3 k, f4 k) (ex, ey, dx, dy))) (ty := .long) (C := "RayFieldModel") (T := F_Md) (N := 18) hx hb hts in_Md t_Md tok_Md nn_Md hown hK hP hD hS 0 rfl rfl 15 (by decide) (hts _ w_295) (fun _ h9 => h9) rfl (by decide +kernel) rfl rfl (Nat.le_of_ble_eq_true rfl) d_Md_meets_38 (fun H locs hP hD hS => ?_)
  have hP : va_P D vwCl (y_7 y t0 t1 t2 t3 t4 t5 c0 c1 c2 c3 c4 c5 ma ha ex ey dx dy ab be ri (m_a (f1 k, f2 k, f3 k, f4 k) (ex, ey, dx, dy)) o2 f0 f1 f2 f3 f4 f5) H := hP
  have hD : va_D A (y_7 y t0 t1 t2 t3 t4 t5 c0 c1 c2 c3 c4 c5 ma ha ex ey dx dy ab be ri (m_a (f1 k, f2 k, f3 k, f4 k) (ex, ey, dx, dy)) o2 f0 f1 f2 f3 f4 f5) := hD
  refine lv_aload_n hx hb d_Md_meets_41 rfl (lv_at hl 0 rfl) ?_
  refine lv_aload_n hx hb d_Md_meets_42 rfl (lv_at hl 0 rfl) ?_
  refine va_get (D := D) (ci := 4) (v := .int dx) (C := "RayFieldModel") (T := F_Md) (N := 18) hx hb hts in_Md hown hK hP 0 rfl rfl 10 (by decide) (hts _ w_290) (fun _ h9 => h9) rfl d_Md_meets_43 ?_
  refine lv_i2l hx hb d_Md_meets_46 rfl ?_
  refine lv_aload_n hx hb d_Md_meets_47 rfl (lv_at hl 0 rfl) ?_
  refine va_get (D := D) (ci := 4) (v := .int dy) (C := "RayFieldModel") (T := F_Md) (N := 18) hx hb hts in_Md hown hK hP 0 rfl rfl 11 (by decide) (hts _ w_291) (fun _ h9 => h9) rfl d_Md_meets_48 ?_
  refine lv_i2l hx hb d_Md_meets_51 rfl ?_
  refine lv_aload_n hx hb d_Md_meets_52 rfl (lv_at hl 0 rfl) ?_
  refine va_get (D := D) (ci := 4) (v := .ref t3) (C := "RayFieldModel") (T := F_Md) (N := 18) hx hb hts in_Md hown hK hP 0 rfl rfl 4 (by decide) (hts _ w_284) (fun _ h9 => h9) rfl d_Md_meets_53 ?_
  refine lv_iload_n hx hb d_Md_meets_56 rfl (lv_at hl 1 rfl) ?_
  refine rf_iald hx hb hK hP 4 3 rfl rfl hk (by decide) d_Md_meets_57 ?_
  refine lv_aload_n hx hb d_Md_meets_58 rfl (lv_at hl 0 rfl) ?_
  refine va_get (D := D) (ci := 4) (v := .int ex) (C := "RayFieldModel") (T := F_Md) (N := 18) hx hb hts in_Md hown hK hP 0 rfl rfl 8 (by decide) (hts _ w_288) (fun _ h9 => h9) rfl d_Md_meets_59 ?_
  refine lv_isub hx hb d_Md_meets_62 ?_
  refine lv_i2l hx hb d_Md_meets_63 rfl ?_
  refine lv_aload_n hx hb d_Md_meets_64 rfl (lv_at hl 0 rfl) ?_
  refine va_get (D := D) (ci := 4) (v := .ref t4) (C := "RayFieldModel") (T := F_Md) (N := 18) hx hb hts in_Md hown hK hP 0 rfl rfl 5 (by decide) (hts _ w_285) (fun _ h9 => h9) rfl d_Md_meets_65 ?_
  refine lv_iload_n hx hb d_Md_meets_68 rfl (lv_at hl 1 rfl) ?_
  refine rf_iald hx hb hK hP 5 4 rfl rfl hk (by decide) d_Md_meets_69 ?_
  refine lv_aload_n hx hb d_Md_meets_70 rfl (lv_at hl 0 rfl) ?_
  refine va_get (D := D) (ci := 4) (v := .int ey) (C := "RayFieldModel") (T := F_Md) (N := 18) hx hb hts in_Md hown hK hP 0 rfl rfl 9 (by decide) (hts _ w_289) (fun _ h9 => h9) rfl d_Md_meets_71 ?_
  refine lv_isub hx hb d_Md_meets_74 ?_
  refine lv_i2l hx hb d_Md_meets_75 rfl ?_
  refine vp_callSl (va_Run.run (rf_runS (As := [.long dx.toInt64, .long dy.toInt64, .long (((f3 k) - ex).toInt64), .long (((f4 k) - ey).toInt64)]) (rest := [.ref y]) S0 ml_Md_33 (c_Md_cross l D (y_t c0 c1 c2 c3 c4 c5) dx.toInt64 dy.toInt64 (((f3 k) - ex).toInt64) (((f4 k) - ey).toInt64)) hE trivial ⟨rfl, rfl, Nat.le_of_ble_eq_true rfl, Nat.le_of_ble_eq_true rfl⟩ rfl hl.1 rfl (Nat.le_of_ble_eq_true rfl) d_Md_meets_76 ⟨Nat.zero_le _, Nat.zero_le _⟩)) (fun r_3 h_4 => ?_)
  subst h_4
  refine rf_topl (y := m_b (f1 k, f2 k, f3 k, f4 k) (ex, ey, dx, dy)) rfl ?_
  refine va_put (D := D) (ci := 4) (v := .long (m_b (f1 k, f2 k, f3 k, f4 k) (ex, ey, dx, dy))) (ty := .long) (C := "RayFieldModel") (T := F_Md) (N := 18) hx hb hts in_Md t_Md tok_Md nn_Md hown hK hP hD hS 0 rfl rfl 16 (by decide) (hts _ w_296) (fun _ h9 => h9) rfl (by decide +kernel) rfl rfl (Nat.le_of_ble_eq_true rfl) d_Md_meets_79 (fun H locs hP hD hS => ?_)
  have hP : va_P D vwCl (y_7 y t0 t1 t2 t3 t4 t5 c0 c1 c2 c3 c4 c5 ma ha ex ey dx dy ab be ri (m_a (f1 k, f2 k, f3 k, f4 k) (ex, ey, dx, dy)) (m_b (f1 k, f2 k, f3 k, f4 k) (ex, ey, dx, dy)) f0 f1 f2 f3 f4 f5) H := hP
  have hD : va_D A (y_7 y t0 t1 t2 t3 t4 t5 c0 c1 c2 c3 c4 c5 ma ha ex ey dx dy ab be ri (m_a (f1 k, f2 k, f3 k, f4 k) (ex, ey, dx, dy)) (m_b (f1 k, f2 k, f3 k, f4 k) (ex, ey, dx, dy)) f0 f1 f2 f3 f4 f5) := hD
  refine lv_aload_n hx hb d_Md_meets_82 rfl (lv_at hl 0 rfl) ?_
  refine lv_aload_n hx hb d_Md_meets_83 rfl (lv_at hl 0 rfl) ?_
  refine va_get (D := D) (ci := 4) (v := .ref t1) (C := "RayFieldModel") (T := F_Md) (N := 18) hx hb hts in_Md hown hK hP 0 rfl rfl 2 (by decide) (hts _ w_282) (fun _ h9 => h9) rfl d_Md_meets_84 ?_
  refine lv_iload_n hx hb d_Md_meets_87 rfl (lv_at hl 1 rfl) ?_
  refine rf_iald hx hb hK hP 2 1 rfl rfl hk (by decide) d_Md_meets_88 ?_
  refine lv_aload_n hx hb d_Md_meets_89 rfl (lv_at hl 0 rfl) ?_
  refine va_get (D := D) (ci := 4) (v := .int ex) (C := "RayFieldModel") (T := F_Md) (N := 18) hx hb hts in_Md hown hK hP 0 rfl rfl 8 (by decide) (hts _ w_288) (fun _ h9 => h9) rfl d_Md_meets_90 ?_
  refine lv_isub hx hb d_Md_meets_93 ?_
  refine lv_i2l hx hb d_Md_meets_94 rfl ?_
  refine lv_aload_n hx hb d_Md_meets_95 rfl (lv_at hl 0 rfl) ?_
  refine va_get (D := D) (ci := 4) (v := .ref t2) (C := "RayFieldModel") (T := F_Md) (N := 18) hx hb hts in_Md hown hK hP 0 rfl rfl 3 (by decide) (hts _ w_283) (fun _ h9 => h9) rfl d_Md_meets_96 ?_
  refine lv_iload_n hx hb d_Md_meets_99 rfl (lv_at hl 1 rfl) ?_
  refine rf_iald hx hb hK hP 3 2 rfl rfl hk (by decide) d_Md_meets_100 ?_
  refine lv_aload_n hx hb d_Md_meets_101 rfl (lv_at hl 0 rfl) ?_
  refine va_get (D := D) (ci := 4) (v := .int ey) (C := "RayFieldModel") (T := F_Md) (N := 18) hx hb hts in_Md hown hK hP 0 rfl rfl 9 (by decide) (hts _ w_289) (fun _ h9 => h9) rfl d_Md_meets_102 ?_
  refine lv_isub hx hb d_Md_meets_105 ?_
  refine lv_i2l hx hb d_Md_meets_106 rfl ?_
  refine lv_aload_n hx hb d_Md_meets_107 rfl (lv_at hl 0 rfl) ?_
  refine va_get (D := D) (ci := 4) (v := .ref t3) (C := "RayFieldModel") (T := F_Md) (N := 18) hx hb hts in_Md hown hK hP 0 rfl rfl 4 (by decide) (hts _ w_284) (fun _ h9 => h9) rfl d_Md_meets_108 ?_
  refine lv_iload_n hx hb d_Md_meets_111 rfl (lv_at hl 1 rfl) ?_
  refine rf_iald hx hb hK hP 4 3 rfl rfl hk (by decide) d_Md_meets_112 ?_
  refine lv_aload_n hx hb d_Md_meets_113 rfl (lv_at hl 0 rfl) ?_
  refine va_get (D := D) (ci := 4) (v := .ref t1) (C := "RayFieldModel") (T := F_Md) (N := 18) hx hb hts in_Md hown hK hP 0 rfl rfl 2 (by decide) (hts _ w_282) (fun _ h9 => h9) rfl d_Md_meets_114 ?_
  refine lv_iload_n hx hb d_Md_meets_117 rfl (lv_at hl 1 rfl) ?_
  refine rf_iald hx hb hK hP 2 1 rfl rfl hk (by decide) d_Md_meets_118 ?_
  refine lv_isub hx hb d_Md_meets_119 ?_
  refine lv_i2l hx hb d_Md_meets_120 rfl ?_
  refine lv_aload_n hx hb d_Md_meets_121 rfl (lv_at hl 0 rfl) ?_
  refine va_get (D := D) (ci := 4) (v := .ref t4) (C := "RayFieldModel") (T := F_Md) (N := 18) hx hb hts in_Md hown hK hP 0 rfl rfl 5 (by decide) (hts _ w_285) (fun _ h9 => h9) rfl d_Md_meets_122 ?_
  refine lv_iload_n hx hb d_Md_meets_125 rfl (lv_at hl 1 rfl) ?_
  refine rf_iald hx hb hK hP 5 4 rfl rfl hk (by decide) d_Md_meets_126 ?_
  refine lv_aload_n hx hb d_Md_meets_127 rfl (lv_at hl 0 rfl) ?_
  refine va_get (D := D) (ci := 4) (v := .ref t2) (C := "RayFieldModel") (T := F_Md) (N := 18) hx hb hts in_Md hown hK hP 0 rfl rfl 3 (by decide) (hts _ w_283) (fun _ h9 => h9) rfl d_Md_meets_128 ?_
  refine lv_iload_n hx hb d_Md_meets_131 rfl (lv_at hl 1 rfl) ?_
  refine rf_iald hx hb hK hP 3 2 rfl rfl hk (by decide) d_Md_meets_132 ?_
  refine lv_isub hx hb d_Md_meets_133 ?_
  refine lv_i2l hx hb d_Md_meets_134 rfl ?_
  refine vp_callSl (va_Run.run (rf_runS (As := [.long (((f1 k) - ex).toInt64), .long (((f2 k) - ey).toInt64), .long (((f3 k) - (f1 k)).toInt64), .long (((f4 k) - (f2 k)).toInt64)]) (rest := [.ref y]) S0 ml_Md_33 (c_Md_cross l D (y_t c0 c1 c2 c3 c4 c5) (((f1 k) - ex).toInt64) (((f2 k) - ey).toInt64) (((f3 k) - (f1 k)).toInt64) (((f4 k) - (f2 k)).toInt64)) hE trivial ⟨rfl, rfl, Nat.le_of_ble_eq_true rfl, Nat.le_of_ble_eq_true rfl⟩ rfl hl.1 rfl (Nat.le_of_ble_eq_true rfl) d_Md_meets_135 ⟨Nat.zero_le _, Nat.zero_le _⟩)) (fun r_5 h_6 => ?_)
  subst h_6
  refine rf_topl (y := k_p0 (f1 k, f2 k, f3 k, f4 k) (ex, ey, dx, dy)) rfl ?_
  refine va_put (D := D) (ci := 4) (v := .long (k_p0 (f1 k, f2 k, f3 k, f4 k) (ex, ey, dx, dy))) (ty := .long) (C := "RayFieldModel") (T := F_Md) (N := 18) hx hb hts in_Md t_Md tok_Md nn_Md hown hK hP hD hS 0 rfl rfl 12 (by decide) (hts _ w_292) (fun _ h9 => h9) rfl (by decide +kernel) rfl rfl (Nat.le_of_ble_eq_true rfl) d_Md_meets_138 (fun H locs hP hD hS => ?_)
  have hP : va_P D vwCl (y_7 y t0 t1 t2 t3 t4 t5 c0 c1 c2 c3 c4 c5 ma ha ex ey dx dy (k_p0 (f1 k, f2 k, f3 k, f4 k) (ex, ey, dx, dy)) be ri (m_a (f1 k, f2 k, f3 k, f4 k) (ex, ey, dx, dy)) (m_b (f1 k, f2 k, f3 k, f4 k) (ex, ey, dx, dy)) f0 f1 f2 f3 f4 f5) H := hP
  have hD : va_D A (y_7 y t0 t1 t2 t3 t4 t5 c0 c1 c2 c3 c4 c5 ma ha ex ey dx dy (k_p0 (f1 k, f2 k, f3 k, f4 k) (ex, ey, dx, dy)) be ri (m_a (f1 k, f2 k, f3 k, f4 k) (ex, ey, dx, dy)) (m_b (f1 k, f2 k, f3 k, f4 k) (ex, ey, dx, dy)) f0 f1 f2 f3 f4 f5) := hD
  refine lv_aload_n hx hb d_Md_meets_141 rfl (lv_at hl 0 rfl) ?_
  refine lv_aload_n hx hb d_Md_meets_142 rfl (lv_at hl 0 rfl) ?_
  refine va_get (D := D) (ci := 4) (v := .long (m_b (f1 k, f2 k, f3 k, f4 k) (ex, ey, dx, dy))) (C := "RayFieldModel") (T := F_Md) (N := 18) hx hb hts in_Md hown hK hP 0 rfl rfl 16 (by decide) (hts _ w_296) (fun _ h9 => h9) rfl d_Md_meets_143 ?_
  refine lv_aload_n hx hb d_Md_meets_146 rfl (lv_at hl 0 rfl) ?_
  refine va_get (D := D) (ci := 4) (v := .long (m_a (f1 k, f2 k, f3 k, f4 k) (ex, ey, dx, dy))) (C := "RayFieldModel") (T := F_Md) (N := 18) hx hb hts in_Md hown hK hP 0 rfl rfl 15 (by decide) (hts _ w_295) (fun _ h9 => h9) rfl d_Md_meets_147 ?_
  refine lv_lsub hx hb d_Md_meets_150 ?_
  refine rf_topl (y := m_q (f1 k, f2 k, f3 k, f4 k) (ex, ey, dx, dy)) rfl ?_
  refine va_put (D := D) (ci := 4) (v := .long (m_q (f1 k, f2 k, f3 k, f4 k) (ex, ey, dx, dy))) (ty := .long) (C := "RayFieldModel") (T := F_Md) (N := 18) hx hb hts in_Md t_Md tok_Md nn_Md hown hK hP hD hS 0 rfl rfl 13 (by decide) (hts _ w_293) (fun _ h9 => h9) rfl (by decide +kernel) rfl rfl (Nat.le_of_ble_eq_true rfl) d_Md_meets_151 (fun H locs hP hD hS => ?_)
  have hP : va_P D vwCl (y_7 y t0 t1 t2 t3 t4 t5 c0 c1 c2 c3 c4 c5 ma ha ex ey dx dy (k_p0 (f1 k, f2 k, f3 k, f4 k) (ex, ey, dx, dy)) (m_q (f1 k, f2 k, f3 k, f4 k) (ex, ey, dx, dy)) ri (m_a (f1 k, f2 k, f3 k, f4 k) (ex, ey, dx, dy)) (m_b (f1 k, f2 k, f3 k, f4 k) (ex, ey, dx, dy)) f0 f1 f2 f3 f4 f5) H := hP
  have hD : va_D A (y_7 y t0 t1 t2 t3 t4 t5 c0 c1 c2 c3 c4 c5 ma ha ex ey dx dy (k_p0 (f1 k, f2 k, f3 k, f4 k) (ex, ey, dx, dy)) (m_q (f1 k, f2 k, f3 k, f4 k) (ex, ey, dx, dy)) ri (m_a (f1 k, f2 k, f3 k, f4 k) (ex, ey, dx, dy)) (m_b (f1 k, f2 k, f3 k, f4 k) (ex, ey, dx, dy)) f0 f1 f2 f3 f4 f5) := hD
  refine rf_joinH 172 [] (fun H locs => va_P D vwCl (y_7 y t0 t1 t2 t3 t4 t5 c0 c1 c2 c3 c4 c5 ma ha ex ey dx dy (k_p0 (f1 k, f2 k, f3 k, f4 k) (ex, ey, dx, dy)) (m_q (f1 k, f2 k, f3 k, f4 k) (ex, ey, dx, dy)) (k_ri (f1 k, f2 k, f3 k, f4 k) (ex, ey, dx, dy)) (m_a (f1 k, f2 k, f3 k, f4 k) (ex, ey, dx, dy)) (m_b (f1 k, f2 k, f3 k, f4 k) (ex, ey, dx, dy)) f0 f1 f2 f3 f4 f5) H ∧ va_D A (y_7 y t0 t1 t2 t3 t4 t5 c0 c1 c2 c3 c4 c5 ma ha ex ey dx dy (k_p0 (f1 k, f2 k, f3 k, f4 k) (ex, ey, dx, dy)) (m_q (f1 k, f2 k, f3 k, f4 k) (ex, ey, dx, dy)) (k_ri (f1 k, f2 k, f3 k, f4 k) (ex, ey, dx, dy)) (m_a (f1 k, f2 k, f3 k, f4 k) (ex, ey, dx, dy)) (m_b (f1 k, f2 k, f3 k, f4 k) (ex, ey, dx, dy)) f0 f1 f2 f3 f4 f5) ∧ va_S A s.heap H locs) (fun H locs hI => ?_) (fun J => ?_)
  · obtain ⟨hP, hD, hS⟩ := hI
    refine rf_joinH 199 [] (fun H locs => va_P D vwCl (y_7 y t0 t1 t2 t3 t4 t5 c0 c1 c2 c3 c4 c5 ma ha ex ey dx dy (k_up (f1 k, f2 k, f3 k, f4 k) (ex, ey, dx, dy)) (k_dn (f1 k, f2 k, f3 k, f4 k) (ex, ey, dx, dy)) (k_ri (f1 k, f2 k, f3 k, f4 k) (ex, ey, dx, dy)) (m_a (f1 k, f2 k, f3 k, f4 k) (ex, ey, dx, dy)) (m_b (f1 k, f2 k, f3 k, f4 k) (ex, ey, dx, dy)) f0 f1 f2 f3 f4 f5) H ∧ va_D A (y_7 y t0 t1 t2 t3 t4 t5 c0 c1 c2 c3 c4 c5 ma ha ex ey dx dy (k_up (f1 k, f2 k, f3 k, f4 k) (ex, ey, dx, dy)) (k_dn (f1 k, f2 k, f3 k, f4 k) (ex, ey, dx, dy)) (k_ri (f1 k, f2 k, f3 k, f4 k) (ex, ey, dx, dy)) (m_a (f1 k, f2 k, f3 k, f4 k) (ex, ey, dx, dy)) (m_b (f1 k, f2 k, f3 k, f4 k) (ex, ey, dx, dy)) f0 f1 f2 f3 f4 f5) ∧ va_S A s.heap H locs) (fun H locs hI => ?_) (fun J => ?_)
    · obtain ⟨hP, hD, hS⟩ := hI
      refine lv_aload_n hx hb d_Md_meets_199 rfl (lv_at hl 0 rfl) ?_
      refine va_get (D := D) (ci := 4) (v := .long (m_a (f1 k, f2 k, f3 k, f4 k) (ex, ey, dx, dy))) (C := "RayFieldModel") (T := F_Md) (N := 18) hx hb hts in_Md hown hK hP 0 rfl rfl 15 (by decide) (hts _ w_295) (fun _ h9 => h9) rfl d_Md_meets_200 ?_
      refine lv_lconst (v := 0) hx hb d_Md_meets_203 (by decide) ?_
      refine rf_lcmp_ge (tgt := 212) hx hb d_Md_meets_204 d_Md_meets_205 (by decide) (fun c_7 => ?_) (fun c_7 => ?_)
      · refine lv_iconst (v := 0) hx hb d_Md_meets_212 (by decide) ?_
        refine lv_aload_n hx hb d_Md_meets_213 rfl (lv_at hl 0 rfl) ?_
        refine va_get (D := D) (ci := 4) (v := .long (m_b (f1 k, f2 k, f3 k, f4 k) (ex, ey, dx, dy))) (C := "RayFieldModel") (T := F_Md) (N := 18) hx hb hts in_Md hown hK hP 0 rfl rfl 16 (by decide) (hts _ w_296) (fun _ h9 => h9) rfl d_Md_meets_214 ?_
        refine lv_lconst (v := 0) hx hb d_Md_meets_217 (by decide) ?_
        refine rf_lcmp_ge (tgt := 226) hx hb d_Md_meets_218 d_Md_meets_219 (by decide) (fun c_8 => ?_) (fun c_8 => ?_)
        · refine lv_iconst (v := 0) hx hb d_Md_meets_226 (by decide) ?_
          refine lv_icmp_eq (tgt := 243) hx hb d_Md_meets_227 (by decide) (fun c_9 => ?_) (fun c_9 => absurd rfl c_9)
          refine lv_iconst (v := 0) hx hb d_Md_meets_243 (by decide) ?_
          exact W.zret (v := 0) (ty := .boolean) hx hb hr rfl (fun t ht hW => ⟨⟨_, (), rfl, (rf_F (fun h => h.1 ⟨fun q => absurd q (Int64.not_lt.mpr c_7), fun q => absurd q (Int64.not_lt.mpr c_8)⟩)), by rw [ht]; exact hP, hD⟩, hS.F ht⟩) hS.2.2 d_Md_meets_244
        · refine lv_iconst (v := 1) hx hb d_Md_meets_222 (by decide) ?_
          refine lv_goto (tgt := 227) hx hb d_Md_meets_223 (by decide) ?_
          refine lv_icmp_eq (tgt := 243) hx hb d_Md_meets_227 (by decide) (fun c_10 => absurd c_10 (by decide)) (fun c_10 => ?_)
          refine lv_aload_n hx hb d_Md_meets_230 rfl (lv_at hl 0 rfl) ?_
          refine va_get (D := D) (ci := 4) (v := .long (k_up (f1 k, f2 k, f3 k, f4 k) (ex, ey, dx, dy))) (C := "RayFieldModel") (T := F_Md) (N := 18) hx hb hts in_Md hown hK hP 0 rfl rfl 12 (by decide) (hts _ w_292) (fun _ h9 => h9) rfl d_Md_meets_231 ?_
          refine lv_lconst (v := 0) hx hb d_Md_meets_234 (by decide) ?_
          refine rf_lcmp_le (tgt := 243) hx hb d_Md_meets_235 d_Md_meets_236 (by decide) (fun c_11 => ?_) (fun c_11 => ?_)
          · refine lv_iconst (v := 0) hx hb d_Md_meets_243 (by decide) ?_
            exact W.zret (v := 0) (ty := .boolean) hx hb hr rfl (fun t ht hW => ⟨⟨_, (), rfl, (rf_F (fun h => (Int64.not_lt.mpr c_11) h.2)), by rw [ht]; exact hP, hD⟩, hS.F ht⟩) hS.2.2 d_Md_meets_244
          · refine lv_iconst (v := 1) hx hb d_Md_meets_239 (by decide) ?_
            refine lv_goto (tgt := 244) hx hb d_Md_meets_240 (by decide) ?_
            exact W.zret (v := 1) (ty := .boolean) hx hb hr rfl (fun t ht hW => ⟨⟨_, (), rfl, (rf_T ⟨(fun h => (Int64.not_lt.mpr c_7) (h.mpr (Int64.not_le.mp c_8))), (Int64.not_le.mp c_11)⟩), by rw [ht]; exact hP, hD⟩, hS.F ht⟩) hS.2.2 d_Md_meets_244
      · refine lv_iconst (v := 1) hx hb d_Md_meets_208 (by decide) ?_
        refine lv_goto (tgt := 213) hx hb d_Md_meets_209 (by decide) ?_
        refine lv_aload_n hx hb d_Md_meets_213 rfl (lv_at hl 0 rfl) ?_
        refine va_get (D := D) (ci := 4) (v := .long (m_b (f1 k, f2 k, f3 k, f4 k) (ex, ey, dx, dy))) (C := "RayFieldModel") (T := F_Md) (N := 18) hx hb hts in_Md hown hK hP 0 rfl rfl 16 (by decide) (hts _ w_296) (fun _ h9 => h9) rfl d_Md_meets_214 ?_
        refine lv_lconst (v := 0) hx hb d_Md_meets_217 (by decide) ?_
        refine rf_lcmp_ge (tgt := 226) hx hb d_Md_meets_218 d_Md_meets_219 (by decide) (fun c_12 => ?_) (fun c_12 => ?_)
        · refine lv_iconst (v := 0) hx hb d_Md_meets_226 (by decide) ?_
          refine lv_icmp_eq (tgt := 243) hx hb d_Md_meets_227 (by decide) (fun c_13 => absurd c_13 (by decide)) (fun c_13 => ?_)
          refine lv_aload_n hx hb d_Md_meets_230 rfl (lv_at hl 0 rfl) ?_
          refine va_get (D := D) (ci := 4) (v := .long (k_up (f1 k, f2 k, f3 k, f4 k) (ex, ey, dx, dy))) (C := "RayFieldModel") (T := F_Md) (N := 18) hx hb hts in_Md hown hK hP 0 rfl rfl 12 (by decide) (hts _ w_292) (fun _ h9 => h9) rfl d_Md_meets_231 ?_
          refine lv_lconst (v := 0) hx hb d_Md_meets_234 (by decide) ?_
          refine rf_lcmp_le (tgt := 243) hx hb d_Md_meets_235 d_Md_meets_236 (by decide) (fun c_14 => ?_) (fun c_14 => ?_)
          · refine lv_iconst (v := 0) hx hb d_Md_meets_243 (by decide) ?_
            exact W.zret (v := 0) (ty := .boolean) hx hb hr rfl (fun t ht hW => ⟨⟨_, (), rfl, (rf_F (fun h => (Int64.not_lt.mpr c_14) h.2)), by rw [ht]; exact hP, hD⟩, hS.F ht⟩) hS.2.2 d_Md_meets_244
          · refine lv_iconst (v := 1) hx hb d_Md_meets_239 (by decide) ?_
            refine lv_goto (tgt := 244) hx hb d_Md_meets_240 (by decide) ?_
            exact W.zret (v := 1) (ty := .boolean) hx hb hr rfl (fun t ht hW => ⟨⟨_, (), rfl, (rf_T ⟨(fun h => (Int64.not_lt.mpr c_12) (h.mp (Int64.not_le.mp c_7))), (Int64.not_le.mp c_14)⟩), by rw [ht]; exact hP, hD⟩, hS.F ht⟩) hS.2.2 d_Md_meets_244
        · refine lv_iconst (v := 1) hx hb d_Md_meets_222 (by decide) ?_
          refine lv_goto (tgt := 227) hx hb d_Md_meets_223 (by decide) ?_
          refine lv_icmp_eq (tgt := 243) hx hb d_Md_meets_227 (by decide) (fun c_15 => ?_) (fun c_15 => absurd rfl c_15)
          refine lv_iconst (v := 0) hx hb d_Md_meets_243 (by decide) ?_
          exact W.zret (v := 0) (ty := .boolean) hx hb hr rfl (fun t ht hW => ⟨⟨_, (), rfl, (rf_F (fun h => h.1 ⟨fun _ => (Int64.not_le.mp c_12), fun _ => (Int64.not_le.mp c_7)⟩)), by rw [ht]; exact hP, hD⟩, hS.F ht⟩) hS.2.2 d_Md_meets_244
    · refine lv_aload_n hx hb d_Md_meets_172 rfl (lv_at hl 0 rfl) ?_
      refine va_get (D := D) (ci := 4) (v := .long (m_q (f1 k, f2 k, f3 k, f4 k) (ex, ey, dx, dy))) (C := "RayFieldModel") (T := F_Md) (N := 18) hx hb hts in_Md hown hK hP 0 rfl rfl 13 (by decide) (hts _ w_293) (fun _ h9 => h9) rfl d_Md_meets_173 ?_
      refine lv_lconst (v := 0) hx hb d_Md_meets_176 (by decide) ?_
      refine rf_lcmp_ge (tgt := 199) hx hb d_Md_meets_177 d_Md_meets_178 (by decide) (fun c_16 => ?_) (fun c_16 => ?_)
      · refine J _ _ ⟨?_, ?_, hS⟩
        · rw [show k_up (f1 k, f2 k, f3 k, f4 k) (ex, ey, dx, dy) = k_p0 (f1 k, f2 k, f3 k, f4 k) (ex, ey, dx, dy) from if_neg (Int64.not_lt.mpr c_16), show k_dn (f1 k, f2 k, f3 k, f4 k) (ex, ey, dx, dy) = m_q (f1 k, f2 k, f3 k, f4 k) (ex, ey, dx, dy) from if_neg (Int64.not_lt.mpr c_16)]; exact hP
        · rw [show k_up (f1 k, f2 k, f3 k, f4 k) (ex, ey, dx, dy) = k_p0 (f1 k, f2 k, f3 k, f4 k) (ex, ey, dx, dy) from if_neg (Int64.not_lt.mpr c_16), show k_dn (f1 k, f2 k, f3 k, f4 k) (ex, ey, dx, dy) = m_q (f1 k, f2 k, f3 k, f4 k) (ex, ey, dx, dy) from if_neg (Int64.not_lt.mpr c_16)]; exact hD
      · refine lv_aload_n hx hb d_Md_meets_181 rfl (lv_at hl 0 rfl) ?_
        refine lv_aload_n hx hb d_Md_meets_182 rfl (lv_at hl 0 rfl) ?_
        refine va_get (D := D) (ci := 4) (v := .long (k_p0 (f1 k, f2 k, f3 k, f4 k) (ex, ey, dx, dy))) (C := "RayFieldModel") (T := F_Md) (N := 18) hx hb hts in_Md hown hK hP 0 rfl rfl 12 (by decide) (hts _ w_292) (fun _ h9 => h9) rfl d_Md_meets_183 ?_
        refine lv_lneg hx hb d_Md_meets_186 ?_
        refine va_put (D := D) (ci := 4) (v := .long (-(k_p0 (f1 k, f2 k, f3 k, f4 k) (ex, ey, dx, dy)))) (ty := .long) (C := "RayFieldModel") (T := F_Md) (N := 18) hx hb hts in_Md t_Md tok_Md nn_Md hown hK hP hD hS 0 rfl rfl 12 (by decide) (hts _ w_292) (fun _ h9 => h9) rfl (by decide +kernel) rfl rfl (Nat.le_of_ble_eq_true rfl) d_Md_meets_187 (fun H locs hP hD hS => ?_)
        have hP : va_P D vwCl (y_7 y t0 t1 t2 t3 t4 t5 c0 c1 c2 c3 c4 c5 ma ha ex ey dx dy (-(k_p0 (f1 k, f2 k, f3 k, f4 k) (ex, ey, dx, dy))) (m_q (f1 k, f2 k, f3 k, f4 k) (ex, ey, dx, dy)) (k_ri (f1 k, f2 k, f3 k, f4 k) (ex, ey, dx, dy)) (m_a (f1 k, f2 k, f3 k, f4 k) (ex, ey, dx, dy)) (m_b (f1 k, f2 k, f3 k, f4 k) (ex, ey, dx, dy)) f0 f1 f2 f3 f4 f5) H := hP
        have hD : va_D A (y_7 y t0 t1 t2 t3 t4 t5 c0 c1 c2 c3 c4 c5 ma ha ex ey dx dy (-(k_p0 (f1 k, f2 k, f3 k, f4 k) (ex, ey, dx, dy))) (m_q (f1 k, f2 k, f3 k, f4 k) (ex, ey, dx, dy)) (k_ri (f1 k, f2 k, f3 k, f4 k) (ex, ey, dx, dy)) (m_a (f1 k, f2 k, f3 k, f4 k) (ex, ey, dx, dy)) (m_b (f1 k, f2 k, f3 k, f4 k) (ex, ey, dx, dy)) f0 f1 f2 f3 f4 f5) := hD
        refine lv_aload_n hx hb d_Md_meets_190 rfl (lv_at hl 0 rfl) ?_
        refine lv_aload_n hx hb d_Md_meets_191 rfl (lv_at hl 0 rfl) ?_
        refine va_get (D := D) (ci := 4) (v := .long (m_q (f1 k, f2 k, f3 k, f4 k) (ex, ey, dx, dy))) (C := "RayFieldModel") (T := F_Md) (N := 18) hx hb hts in_Md hown hK hP 0 rfl rfl 13 (by decide) (hts _ w_293) (fun _ h9 => h9) rfl d_Md_meets_192 ?_
        refine lv_lneg hx hb d_Md_meets_195 ?_
        refine va_put (D := D) (ci := 4) (v := .long (-(m_q (f1 k, f2 k, f3 k, f4 k) (ex, ey, dx, dy)))) (ty := .long) (C := "RayFieldModel") (T := F_Md) (N := 18) hx hb hts in_Md t_Md tok_Md nn_Md hown hK hP hD hS 0 rfl rfl 13 (by decide) (hts _ w_293) (fun _ h9 => h9) rfl (by decide +kernel) rfl rfl (Nat.le_of_ble_eq_true rfl) d_Md_meets_196 (fun H locs hP hD hS => ?_)
        have hP : va_P D vwCl (y_7 y t0 t1 t2 t3 t4 t5 c0 c1 c2 c3 c4 c5 ma ha ex ey dx dy (-(k_p0 (f1 k, f2 k, f3 k, f4 k) (ex, ey, dx, dy))) (-(m_q (f1 k, f2 k, f3 k, f4 k) (ex, ey, dx, dy))) (k_ri (f1 k, f2 k, f3 k, f4 k) (ex, ey, dx, dy)) (m_a (f1 k, f2 k, f3 k, f4 k) (ex, ey, dx, dy)) (m_b (f1 k, f2 k, f3 k, f4 k) (ex, ey, dx, dy)) f0 f1 f2 f3 f4 f5) H := hP
        have hD : va_D A (y_7 y t0 t1 t2 t3 t4 t5 c0 c1 c2 c3 c4 c5 ma ha ex ey dx dy (-(k_p0 (f1 k, f2 k, f3 k, f4 k) (ex, ey, dx, dy))) (-(m_q (f1 k, f2 k, f3 k, f4 k) (ex, ey, dx, dy))) (k_ri (f1 k, f2 k, f3 k, f4 k) (ex, ey, dx, dy)) (m_a (f1 k, f2 k, f3 k, f4 k) (ex, ey, dx, dy)) (m_b (f1 k, f2 k, f3 k, f4 k) (ex, ey, dx, dy)) f0 f1 f2 f3 f4 f5) := hD
        refine J _ _ ⟨?_, ?_, hS⟩
        · rw [show k_up (f1 k, f2 k, f3 k, f4 k) (ex, ey, dx, dy) = -(k_p0 (f1 k, f2 k, f3 k, f4 k) (ex, ey, dx, dy)) from if_pos (Int64.not_le.mp c_16), show k_dn (f1 k, f2 k, f3 k, f4 k) (ex, ey, dx, dy) = -(m_q (f1 k, f2 k, f3 k, f4 k) (ex, ey, dx, dy)) from if_pos (Int64.not_le.mp c_16)]; exact hP
        · rw [show k_up (f1 k, f2 k, f3 k, f4 k) (ex, ey, dx, dy) = -(k_p0 (f1 k, f2 k, f3 k, f4 k) (ex, ey, dx, dy)) from if_pos (Int64.not_le.mp c_16), show k_dn (f1 k, f2 k, f3 k, f4 k) (ex, ey, dx, dy) = -(m_q (f1 k, f2 k, f3 k, f4 k) (ex, ey, dx, dy)) from if_pos (Int64.not_le.mp c_16)]; exact hD
  · refine lv_aload_n hx hb d_Md_meets_154 rfl (lv_at hl 0 rfl) ?_
    refine lv_aload_n hx hb d_Md_meets_155 rfl (lv_at hl 0 rfl) ?_
    refine va_get (D := D) (ci := 4) (v := .long (k_p0 (f1 k, f2 k, f3 k, f4 k) (ex, ey, dx, dy))) (C := "RayFieldModel") (T := F_Md) (N := 18) hx hb hts in_Md hown hK hP 0 rfl rfl 12 (by decide) (hts _ w_292) (fun _ h9 => h9) rfl d_Md_meets_156 ?_
    refine lv_lconst (v := 0) hx hb d_Md_meets_159 (by decide) ?_
    refine rf_lcmp_ge (tgt := 168) hx hb d_Md_meets_160 d_Md_meets_161 (by decide) (fun c_17 => ?_) (fun c_17 => ?_)
    · refine lv_iconst (v := 0) hx hb d_Md_meets_168 (by decide) ?_
      refine va_put (D := D) (ci := 4) (v := .int 0) (ty := .boolean) (C := "RayFieldModel") (T := F_Md) (N := 18) hx hb hts in_Md t_Md tok_Md nn_Md hown hK hP hD hS 0 rfl rfl 14 (by decide) (hts _ w_294) (fun _ h9 => h9) rfl (by decide +kernel) rfl rfl (Nat.le_of_ble_eq_true rfl) d_Md_meets_169 (fun H locs hP hD hS => ?_)
      have hP : va_P D vwCl (y_7 y t0 t1 t2 t3 t4 t5 c0 c1 c2 c3 c4 c5 ma ha ex ey dx dy (k_p0 (f1 k, f2 k, f3 k, f4 k) (ex, ey, dx, dy)) (m_q (f1 k, f2 k, f3 k, f4 k) (ex, ey, dx, dy)) 0 (m_a (f1 k, f2 k, f3 k, f4 k) (ex, ey, dx, dy)) (m_b (f1 k, f2 k, f3 k, f4 k) (ex, ey, dx, dy)) f0 f1 f2 f3 f4 f5) H := hP
      have hD : va_D A (y_7 y t0 t1 t2 t3 t4 t5 c0 c1 c2 c3 c4 c5 ma ha ex ey dx dy (k_p0 (f1 k, f2 k, f3 k, f4 k) (ex, ey, dx, dy)) (m_q (f1 k, f2 k, f3 k, f4 k) (ex, ey, dx, dy)) 0 (m_a (f1 k, f2 k, f3 k, f4 k) (ex, ey, dx, dy)) (m_b (f1 k, f2 k, f3 k, f4 k) (ex, ey, dx, dy)) f0 f1 f2 f3 f4 f5) := hD
      refine J _ _ ⟨?_, ?_, hS⟩
      · rw [show k_ri (f1 k, f2 k, f3 k, f4 k) (ex, ey, dx, dy) = 0 from if_neg (Int64.not_lt.mpr c_17)]; exact hP
      · rw [show k_ri (f1 k, f2 k, f3 k, f4 k) (ex, ey, dx, dy) = 0 from if_neg (Int64.not_lt.mpr c_17)]; exact hD
    · refine lv_iconst (v := 1) hx hb d_Md_meets_164 (by decide) ?_
      refine lv_goto (tgt := 169) hx hb d_Md_meets_165 (by decide) ?_
      refine va_put (D := D) (ci := 4) (v := .int 1) (ty := .boolean) (C := "RayFieldModel") (T := F_Md) (N := 18) hx hb hts in_Md t_Md tok_Md nn_Md hown hK hP hD hS 0 rfl rfl 14 (by decide) (hts _ w_294) (fun _ h9 => h9) rfl (by decide +kernel) rfl rfl (Nat.le_of_ble_eq_true rfl) d_Md_meets_169 (fun H locs hP hD hS => ?_)
      have hP : va_P D vwCl (y_7 y t0 t1 t2 t3 t4 t5 c0 c1 c2 c3 c4 c5 ma ha ex ey dx dy (k_p0 (f1 k, f2 k, f3 k, f4 k) (ex, ey, dx, dy)) (m_q (f1 k, f2 k, f3 k, f4 k) (ex, ey, dx, dy)) 1 (m_a (f1 k, f2 k, f3 k, f4 k) (ex, ey, dx, dy)) (m_b (f1 k, f2 k, f3 k, f4 k) (ex, ey, dx, dy)) f0 f1 f2 f3 f4 f5) H := hP
      have hD : va_D A (y_7 y t0 t1 t2 t3 t4 t5 c0 c1 c2 c3 c4 c5 ma ha ex ey dx dy (k_p0 (f1 k, f2 k, f3 k, f4 k) (ex, ey, dx, dy)) (m_q (f1 k, f2 k, f3 k, f4 k) (ex, ey, dx, dy)) 1 (m_a (f1 k, f2 k, f3 k, f4 k) (ex, ey, dx, dy)) (m_b (f1 k, f2 k, f3 k, f4 k) (ex, ey, dx, dy)) f0 f1 f2 f3 f4 f5) := hD
      refine J _ _ ⟨?_, ?_, hS⟩
      · rw [show k_ri (f1 k, f2 k, f3 k, f4 k) (ex, ey, dx, dy) = 1 from if_pos (Int64.not_le.mp c_17)]; exact hP
      · rw [show k_ri (f1 k, f2 k, f3 k, f4 k) (ex, ey, dx, dy) = 1 from if_pos (Int64.not_le.mp c_17)]; exact hD
set_option maxHeartbeats 4000000 in
set_option maxRecDepth 100000 in
theorem c_Md_isAhead (l : Launch) (D : va_G) (y t0 t1 t2 t3 t4 t5 : Nat) (c0 c1 c2 c3 c4 c5 : ClassId) (ma ha ex ey dx dy : Int32) (ab be : Int64) (ri : Int32) (o1 o2 : Int64) (f0 f1 f2 f3 f4 f5 : Nat → Int32) (i j : Nat) (hi : i < 64) (hj : j < 64) (sz : Nat) : Met l y_Md_isAhead (.code y_Md_isAhead b_Md_isAhead 8 (some (.boolean)) :: BIG) { frames := 2, cells := 0, slots := 0, locals := 80 } (rf_Pc D (y_t c0 c1 c2 c3 c4 c5) [.ref y, .int (nI i), .int (nI j)] (fun h => h.size = sz ∧ va_P D vwCl (y_7 y t0 t1 t2 t3 t4 t5 c0 c1 c2 c3 c4 c5 ma ha ex ey dx dy ab be ri o1 o2 f0 f1 f2 f3 f4 f5) h ∧ va_D (fun _ => True) (y_7 y t0 t1 t2 t3 t4 t5 c0 c1 c2 c3 c4 c5 ma ha ex ey dx dy ab be ri o1 o2 f0 f1 f2 f3 f4 f5))) (va_Qi (S := Unit) (fun r _ => rf_tf r (k_ah (f1 i, f2 i, f3 i, f4 i) (f1 j, f2 j, f3 j, f4 j) (ex, ey, dx, dy) i j)) (fun u t => va_P D vwCl (y_7 y t0 t1 t2 t3 t4 t5 c0 c1 c2 c3 c4 c5 ma ha ex ey dx dy (k_up (f1 j, f2 j, f3 j, f4 j) (ex, ey, dx, dy)) (k_dn (f1 j, f2 j, f3 j, f4 j) (ex, ey, dx, dy)) (k_ri (f1 j, f2 j, f3 j, f4 j) (ex, ey, dx, dy)) (m_a (f1 j, f2 j, f3 j, f4 j) (ex, ey, dx, dy)) (m_b (f1 j, f2 j, f3 j, f4 j) (ex, ey, dx, dy)) f0 f1 f2 f3 f4 f5) t.heap ∧ va_D (va_A (y_7 y t0 t1 t2 t3 t4 t5 c0 c1 c2 c3 c4 c5 ma ha ex ey dx dy ab be ri o1 o2 f0 f1 f2 f3 f4 f5) sz) (y_7 y t0 t1 t2 t3 t4 t5 c0 c1 c2 c3 c4 c5 ma ha ex ey dx dy (k_up (f1 j, f2 j, f3 j, f4 j) (ex, ey, dx, dy)) (k_dn (f1 j, f2 j, f3 j, f4 j) (ex, ey, dx, dy)) (k_ri (f1 j, f2 j, f3 j, f4 j) (ex, ey, dx, dy)) (m_a (f1 j, f2 j, f3 j, f4 j) (ex, ey, dx, dy)) (m_b (f1 j, f2 j, f3 j, f4 j) (ex, ey, dx, dy)) f0 f1 f2 f3 f4 f5)) (va_A (y_7 y t0 t1 t2 t3 t4 t5 c0 c1 c2 c3 c4 c5 ma ha ex ey dx dy ab be ri o1 o2 f0 f1 f2 f3 f4 f5) sz)) 0 0 (va_A (y_7 y t0 t1 t2 t3 t4 t5 c0 c1 c2 c3 c4 c5 ma ha ex ey dx dy ab be ri o1 o2 f0 f1 f2 f3 f4 f5) sz) := by
  refine Met.ofW (cc := b_Md_isAhead) (maxL := 8) (ret := (some (.boolean))) (by decide) rfl ?_
  intro p e s m args below meth c s₁ B hml hv
  obtain ⟨rfl, hE, hP⟩ := hv
  have hx := B.exec
  have hb := B.bytes
  have hr := B.returns
  have hts : ∀ w ∈ BIG, w.before [.ref y, .int (nI i), .int (nI j)].toArray s = true := fun w h => atoms_spec (ws := .code y_Md_isAhead b_Md_isAhead 8 (some (.boolean)) :: BIG) B.pre w (List.mem_cons_of_mem _ h)
  have hown : s.vm.findClass "RayFieldModel" = some m.cls := findClass_of_methodNamed B.named
  have hlocks := B.notSynchronized
  have hK := hE.2
  have S0 : CallFix p m c b_Md_isAhead 8 s [.ref y, .int (nI i), .int (nI j)].toArray BIG "RayFieldModel" := ⟨hx, hb, hml, hown, hts⟩
  have hl := lv_entry ([.ref y, .int (nI i), .int (nI j)]) (n := 8) (Nat.le_of_ble_eq_true rfl)
  rw [lg_entry_eq]
  generalize (lg_sl ([.ref y, .int (nI i), .int (nI j)]) ++ List.replicate (8 - (lg_sl ([.ref y, .int (nI i), .int (nI j)])).length) Slot.unset).toArray = ls at hl ⊢
  have hl : lv_has ls 8 [(0, .ref y), (1, .int (nI i)), (2, .int (nI j))] := hl
  obtain ⟨hsz, hP, hD0⟩ := hP
  subst hsz
  have hD := hD0.self (sz := s.heap.size)
  generalize hAe : va_A (y_7 y t0 t1 t2 t3 t4 t5 c0 c1 c2 c3 c4 c5 ma ha ex ey dx dy ab be ri o1 o2 f0 f1 f2 f3 f4 f5) s.heap.size = A at hD ⊢
  have hA : ∀ q : Nat, s.heap.size ≤ q → A q := fun q h => by rw [← hAe]; exact Or.inr h
  obtain ⟨H, hH⟩ : ∃ H : Heap, H = s.heap := ⟨_, rfl⟩
  refine rf_heap hH ?_
  have hS : va_S A s.heap H [] := by rw [hH]; exact va_S.rf
  have hP : va_P D vwCl (y_7 y t0 t1 t2 t3 t4 t5 c0 c1 c2 c3 c4 c5 ma ha ex ey dx dy ab be ri o1 o2 f0 f1 f2 f3 f4 f5) H := by rw [hH]; exact hP
  refine lv_aload_n hx hb d_Md_isAhead_0 rfl (lv_at hl 0 rfl) ?_
  refine lv_iload_n hx hb d_Md_isAhead_1 rfl (lv_at hl 1 rfl) ?_
  have hFc := rf_freeW hD hS hA
  refine va_calli (rf_runV (As := [.int (nI i)]) (rest := []) S0 ml_Md_94 (c_Md_meets l D y t0 t1 t2 t3 t4 t5 c0 c1 c2 c3 c4 c5 ma ha ex ey dx dy ab be ri o1 o2 f0 f1 f2 f3 f4 f5 i hi H.size) hE (va_recv hK hP (ci := 4) (q0 := 0) rfl rfl) ⟨rfl, hP, hD.weaken (fun _ _ _ _ => trivial)⟩ ⟨rfl, rfl, Nat.le_of_ble_eq_true rfl, Nat.le_of_ble_eq_true rfl⟩ rfl hl.1 rfl (Nat.le_of_ble_eq_true rfl) d_Md_isAhead_2 ⟨Nat.zero_le _, Nat.zero_le _⟩) hS (fun q _ h => hFc q h) hFc (fun r_1 u t H1 locs ht hvm hm_2 hB hz1 hk1 hS => ?_)
  obtain ⟨hP, hD1⟩ := hB
  rw [ht] at hP
  have hD := hD1.weaken (fun k q _ h => hFc q.1 h)
  generalize H1 = H at hP hS ⊢
  have hP : va_P D vwCl (y_7 y t0 t1 t2 t3 t4 t5 c0 c1 c2 c3 c4 c5 ma ha ex ey dx dy (k_up (f1 i, f2 i, f3 i, f4 i) (ex, ey, dx, dy)) (k_dn (f1 i, f2 i, f3 i, f4 i) (ex, ey, dx, dy)) (k_ri (f1 i, f2 i, f3 i, f4 i) (ex, ey, dx, dy)) (m_a (f1 i, f2 i, f3 i, f4 i) (ex, ey, dx, dy)) (m_b (f1 i, f2 i, f3 i, f4 i) (ex, ey, dx, dy)) f0 f1 f2 f3 f4 f5) H := hP
  have hD : va_D A (y_7 y t0 t1 t2 t3 t4 t5 c0 c1 c2 c3 c4 c5 ma ha ex ey dx dy (k_up (f1 i, f2 i, f3 i, f4 i) (ex, ey, dx, dy)) (k_dn (f1 i, f2 i, f3 i, f4 i) (ex, ey, dx, dy)) (k_ri (f1 i, f2 i, f3 i, f4 i) (ex, ey, dx, dy)) (m_a (f1 i, f2 i, f3 i, f4 i) (ex, ey, dx, dy)) (m_b (f1 i, f2 i, f3 i, f4 i) (ex, ey, dx, dy)) f0 f1 f2 f3 f4 f5) := hD
  refine lv_istore_n (lv' := [(3, .int r_1), (0, .ref y), (1, .int (nI i)), (2, .int (nI j))]) hx hb d_Md_isAhead_5 rfl hl (by decide) rfl (fun ls hl => ?_)
  refine lv_aload_n hx hb d_Md_isAhead_6 rfl (lv_at hl 1 rfl) ?_
  refine va_get (D := D) (ci := 4) (v := .long (k_up (f1 i, f2 i, f3 i, f4 i) (ex, ey, dx, dy))) (C := "RayFieldModel") (T := F_Md) (N := 18) hx hb hts in_Md hown hK hP 0 rfl rfl 12 (by decide) (hts _ w_292) (fun _ h9 => h9) rfl d_Md_isAhead_7 ?_
  refine lv_lstore (lv' := [(4, .long (k_up (f1 i, f2 i, f3 i, f4 i) (ex, ey, dx, dy))), (3, .int r_1), (0, .ref y), (1, .int (nI i)), (2, .int (nI j))]) hx hb d_Md_isAhead_10 hl (by decide) rfl (fun ls hl => ?_)
  refine lv_aload_n hx hb d_Md_isAhead_12 rfl (lv_at hl 2 rfl) ?_
  refine va_get (D := D) (ci := 4) (v := .long (k_dn (f1 i, f2 i, f3 i, f4 i) (ex, ey, dx, dy))) (C := "RayFieldModel") (T := F_Md) (N := 18) hx hb hts in_Md hown hK hP 0 rfl rfl 13 (by decide) (hts _ w_293) (fun _ h9 => h9) rfl d_Md_isAhead_13 ?_
  refine lv_lstore (lv' := [(6, .long (k_dn (f1 i, f2 i, f3 i, f4 i) (ex, ey, dx, dy))), (4, .long (k_up (f1 i, f2 i, f3 i, f4 i) (ex, ey, dx, dy))), (3, .int r_1), (0, .ref y), (1, .int (nI i)), (2, .int (nI j))]) hx hb d_Md_isAhead_16 hl (by decide) rfl (fun ls hl => ?_)
  refine lv_aload_n hx hb d_Md_isAhead_18 rfl (lv_at hl 3 rfl) ?_
  refine lv_iload_n hx hb d_Md_isAhead_19 rfl (lv_at hl 5 rfl) ?_
  have hFc := rf_freeW hD hS hA
  refine va_calli (rf_runV (As := [.int (nI j)]) (rest := []) S0 ml_Md_94 (c_Md_meets l D y t0 t1 t2 t3 t4 t5 c0 c1 c2 c3 c4 c5 ma ha ex ey dx dy (k_up (f1 i, f2 i, f3 i, f4 i) (ex, ey, dx, dy)) (k_dn (f1 i, f2 i, f3 i, f4 i) (ex, ey, dx, dy)) (k_ri (f1 i, f2 i, f3 i, f4 i) (ex, ey, dx, dy)) (m_a (f1 i, f2 i, f3 i, f4 i) (ex, ey, dx, dy)) (m_b (f1 i, f2 i, f3 i, f4 i) (ex, ey, dx, dy)) f0 f1 f2 f3 f4 f5 j hj H.size) hE (va_recv hK hP (ci := 4) (q0 := 0) rfl rfl) ⟨rfl, hP, hD.weaken (fun _ _ _ _ => trivial)⟩ ⟨rfl, rfl, Nat.le_of_ble_eq_true rfl, Nat.le_of_ble_eq_true rfl⟩ rfl hl.1 rfl (Nat.le_of_ble_eq_true rfl) d_Md_isAhead_20 ⟨Nat.zero_le _, Nat.zero_le _⟩) hS (fun q _ h => hFc q h) hFc (fun r_3 u t H1 locs ht hvm hm_4 hB hz1 hk1 hS => ?_)
  obtain ⟨hP, hD1⟩ := hB
  rw [ht] at hP
  have hD := hD1.weaken (fun k q _ h => hFc q.1 h)
  generalize H1 = H at hP hS ⊢
  have hP : va_P D vwCl (y_7 y t0 t1 t2 t3 t4 t5 c0 c1 c2 c3 c4 c5 ma ha ex ey dx dy (k_up (f1 j, f2 j, f3 j, f4 j) (ex, ey, dx, dy)) (k_dn (f1 j, f2 j, f3 j, f4 j) (ex, ey, dx, dy)) (k_ri (f1 j, f2 j, f3 j, f4 j) (ex, ey, dx, dy)) (m_a (f1 j, f2 j, f3 j, f4 j) (ex, ey, dx, dy)) (m_b (f1 j, f2 j, f3 j, f4 j) (ex, ey, dx, dy)) f0 f1 f2 f3 f4 f5) H := hP
  have hD : va_D A (y_7 y t0 t1 t2 t3 t4 t5 c0 c1 c2 c3 c4 c5 ma ha ex ey dx dy (k_up (f1 j, f2 j, f3 j, f4 j) (ex, ey, dx, dy)) (k_dn (f1 j, f2 j, f3 j, f4 j) (ex, ey, dx, dy)) (k_ri (f1 j, f2 j, f3 j, f4 j) (ex, ey, dx, dy)) (m_a (f1 j, f2 j, f3 j, f4 j) (ex, ey, dx, dy)) (m_b (f1 j, f2 j, f3 j, f4 j) (ex, ey, dx, dy)) f0 f1 f2 f3 f4 f5) := hD
  refine lv_istore_n (lv' := [(3, .int r_3), (6, .long (k_dn (f1 i, f2 i, f3 i, f4 i) (ex, ey, dx, dy))), (4, .long (k_up (f1 i, f2 i, f3 i, f4 i) (ex, ey, dx, dy))), (0, .ref y), (1, .int (nI i)), (2, .int (nI j))]) hx hb d_Md_isAhead_23 rfl hl (by decide) rfl (fun ls hl => ?_)
  refine lv_lload hx hb d_Md_isAhead_24 (lv_at hl 2 rfl) ?_
  refine lv_aload_n hx hb d_Md_isAhead_26 rfl (lv_at hl 3 rfl) ?_
  refine va_get (D := D) (ci := 4) (v := .long (k_dn (f1 j, f2 j, f3 j, f4 j) (ex, ey, dx, dy))) (C := "RayFieldModel") (T := F_Md) (N := 18) hx hb hts in_Md hown hK hP 0 rfl rfl 13 (by decide) (hts _ w_293) (fun _ h9 => h9) rfl d_Md_isAhead_27 ?_
  refine lv_lmul hx hb d_Md_isAhead_30 ?_
  refine lv_aload_n hx hb d_Md_isAhead_31 rfl (lv_at hl 3 rfl) ?_
  refine va_get (D := D) (ci := 4) (v := .long (k_up (f1 j, f2 j, f3 j, f4 j) (ex, ey, dx, dy))) (C := "RayFieldModel") (T := F_Md) (N := 18) hx hb hts in_Md hown hK hP 0 rfl rfl 12 (by decide) (hts _ w_292) (fun _ h9 => h9) rfl d_Md_isAhead_32 ?_
  refine lv_lload hx hb d_Md_isAhead_35 (lv_at hl 1 rfl) ?_
  refine lv_lmul hx hb d_Md_isAhead_37 ?_
  refine rf_lcmp_lt (tgt := 65) hx hb d_Md_isAhead_38 d_Md_isAhead_39 (by decide) (fun c_5 => ?_) (fun c_5 => ?_)
  · refine lv_iconst (v := 1) hx hb d_Md_isAhead_65 (by decide) ?_
    refine lv_goto (tgt := 70) hx hb d_Md_isAhead_66 (by decide) ?_
    exact W.zret (v := 1) (ty := .boolean) hx hb hr rfl (fun t ht hW => ⟨⟨_, (), rfl, (rf_T (Or.inl c_5)), by rw [ht]; exact hP, hD⟩, hS.F ht⟩) hS.2.2 d_Md_isAhead_70
  · refine lv_lload hx hb d_Md_isAhead_42 (lv_at hl 2 rfl) ?_
    refine lv_aload_n hx hb d_Md_isAhead_44 rfl (lv_at hl 3 rfl) ?_
    refine va_get (D := D) (ci := 4) (v := .long (k_dn (f1 j, f2 j, f3 j, f4 j) (ex, ey, dx, dy))) (C := "RayFieldModel") (T := F_Md) (N := 18) hx hb hts in_Md hown hK hP 0 rfl rfl 13 (by decide) (hts _ w_293) (fun _ h9 => h9) rfl d_Md_isAhead_45 ?_
    refine lv_lmul hx hb d_Md_isAhead_48 ?_
    refine lv_aload_n hx hb d_Md_isAhead_49 rfl (lv_at hl 3 rfl) ?_
    refine va_get (D := D) (ci := 4) (v := .long (k_up (f1 j, f2 j, f3 j, f4 j) (ex, ey, dx, dy))) (C := "RayFieldModel") (T := F_Md) (N := 18) hx hb hts in_Md hown hK hP 0 rfl rfl 12 (by decide) (hts _ w_292) (fun _ h9 => h9) rfl d_Md_isAhead_50 ?_
    refine lv_lload hx hb d_Md_isAhead_53 (lv_at hl 1 rfl) ?_
    refine lv_lmul hx hb d_Md_isAhead_55 ?_
    refine rf_lcmp_ne (tgt := 69) hx hb d_Md_isAhead_56 d_Md_isAhead_57 (by decide) (fun c_6 => ?_) (fun c_6 => ?_)
    · refine lv_iconst (v := 0) hx hb d_Md_isAhead_69 (by decide) ?_
      exact W.zret (v := 0) (ty := .boolean) hx hb hr rfl (fun t ht hW => ⟨⟨_, (), rfl, (rf_F (fun h => h.elim c_5 (fun h => c_6 h.1))), by rw [ht]; exact hP, hD⟩, hS.F ht⟩) hS.2.2 d_Md_isAhead_70
    · refine lv_iload_n hx hb d_Md_isAhead_60 rfl (lv_at hl 4 rfl) ?_
      refine lv_iload_n hx hb d_Md_isAhead_61 rfl (lv_at hl 5 rfl) ?_
      refine lv_icmp_ge (tgt := 69) hx hb d_Md_isAhead_62 (by decide) (fun c_7 => ?_) (fun c_7 => ?_)
      · refine lv_iconst (v := 0) hx hb d_Md_isAhead_69 (by decide) ?_
        exact W.zret (v := 0) (ty := .boolean) hx hb hr rfl (fun t ht hW => ⟨⟨_, (), rfl, (rf_F (fun h => h.elim c_5 (fun h => (Int32.not_lt.mpr c_7) h.2))), by rw [ht]; exact hP, hD⟩, hS.F ht⟩) hS.2.2 d_Md_isAhead_70
      · refine lv_iconst (v := 1) hx hb d_Md_isAhead_65 (by decide) ?_
        refine lv_goto (tgt := 70) hx hb d_Md_isAhead_66 (by decide) ?_
        exact W.zret (v := 1) (ty := .boolean) hx hb hr rfl (fun t ht hW => ⟨⟨_, (), rfl, (rf_T (Or.inr ⟨c_6, (Int32.not_le.mp c_7)⟩)), by rw [ht]; exact hP, hD⟩, hS.F ht⟩) hS.2.2 d_Md_isAhead_70
