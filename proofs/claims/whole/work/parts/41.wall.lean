set_option maxHeartbeats 4000000 in
set_option maxRecDepth 100000 in
theorem c_Wall_side (l : Launch) (D : va_G) (tys : List (ClassId × FieldType)) (q : Nat) (w : Q4) (x y : Int32) : Met l y_Wall_side (.code y_Wall_side b_Wall_side 3 (some (.long)) :: BIG) { frames := 1, cells := 0, slots := 0, locals := 40 } (rf_Pc D tys [.ref q, .int x, .int y] (fun h => va_P D vwCl [(q, e_W w)] h)) (vp_Sl (fun r => r = m_side w x y)) 0 0 (fun _ => False) := by
  refine Met.ofW (cc := b_Wall_side) (maxL := 3) (ret := (some (.long))) (by decide) rfl ?_
  intro p e s m args below meth c s₁ B hml hv
  obtain ⟨rfl, hE, hP⟩ := hv
  have hx := B.exec
  have hb := B.bytes
  have hr := B.returns
  have hts : ∀ w ∈ BIG, w.before [.ref q, .int x, .int y].toArray s = true := fun w h => atoms_spec (ws := .code y_Wall_side b_Wall_side 3 (some (.long)) :: BIG) B.pre w (List.mem_cons_of_mem _ h)
  have hown : s.vm.findClass "RayField$Wall" = some m.cls := findClass_of_methodNamed B.named
  have hlocks := B.notSynchronized
  have hK := hE.2
  have S0 : CallFix p m c b_Wall_side 3 s [.ref q, .int x, .int y].toArray BIG "RayField$Wall" := ⟨hx, hb, hml, hown, hts⟩
  have hl := lv_entry ([.ref q, .int x, .int y]) (n := 3) (Nat.le_of_ble_eq_true rfl)
  rw [lg_entry_eq]
  generalize (lg_sl ([.ref q, .int x, .int y]) ++ List.replicate (3 - (lg_sl ([.ref q, .int x, .int y])).length) Slot.unset).toArray = ls at hl ⊢
  have hl : lv_has ls 3 [(0, .ref q), (1, .int x), (2, .int y)] := hl
  have hP : va_P D vwCl [(q, e_W w)] s.heap := hP
  refine lv_aload_n hx hb d_Wall_side_0 rfl (lv_at hl 0 rfl) ?_
  refine va_get (D := D) (ci := 0) (v := .int w.2.2.1) (C := "RayField$Wall") (T := F_Wall) (N := 4) hx hb hts in_Wall hown hK hP 0 rfl rfl 2 (by decide) (hts _ w_63) (fun _ h9 => h9) rfl d_Wall_side_1 ?_
  refine lv_aload_n hx hb d_Wall_side_4 rfl (lv_at hl 0 rfl) ?_
  refine va_get (D := D) (ci := 0) (v := .int w.1) (C := "RayField$Wall") (T := F_Wall) (N := 4) hx hb hts in_Wall hown hK hP 0 rfl rfl 0 (by decide) (hts _ w_57) (fun _ h9 => h9) rfl d_Wall_side_5 ?_
  refine lv_isub hx hb d_Wall_side_8 ?_
  refine lv_i2l hx hb d_Wall_side_9 rfl ?_
  refine lv_aload_n hx hb d_Wall_side_10 rfl (lv_at hl 0 rfl) ?_
  refine va_get (D := D) (ci := 0) (v := .int w.2.2.2) (C := "RayField$Wall") (T := F_Wall) (N := 4) hx hb hts in_Wall hown hK hP 0 rfl rfl 3 (by decide) (hts _ w_66) (fun _ h9 => h9) rfl d_Wall_side_11 ?_
  refine lv_aload_n hx hb d_Wall_side_14 rfl (lv_at hl 0 rfl) ?_
  refine va_get (D := D) (ci := 0) (v := .int w.2.1) (C := "RayField$Wall") (T := F_Wall) (N := 4) hx hb hts in_Wall hown hK hP 0 rfl rfl 1 (by decide) (hts _ w_60) (fun _ h9 => h9) rfl d_Wall_side_15 ?_
  refine lv_isub hx hb d_Wall_side_18 ?_
  refine lv_i2l hx hb d_Wall_side_19 rfl ?_
  refine lv_iload_n hx hb d_Wall_side_20 rfl (lv_at hl 1 rfl) ?_
  refine lv_aload_n hx hb d_Wall_side_21 rfl (lv_at hl 0 rfl) ?_
  refine va_get (D := D) (ci := 0) (v := .int w.1) (C := "RayField$Wall") (T := F_Wall) (N := 4) hx hb hts in_Wall hown hK hP 0 rfl rfl 0 (by decide) (hts _ w_57) (fun _ h9 => h9) rfl d_Wall_side_22 ?_
  refine lv_isub hx hb d_Wall_side_25 ?_
  refine lv_i2l hx hb d_Wall_side_26 rfl ?_
  refine lv_iload_n hx hb d_Wall_side_27 rfl (lv_at hl 2 rfl) ?_
  refine lv_aload_n hx hb d_Wall_side_28 rfl (lv_at hl 0 rfl) ?_
  refine va_get (D := D) (ci := 0) (v := .int w.2.1) (C := "RayField$Wall") (T := F_Wall) (N := 4) hx hb hts in_Wall hown hK hP 0 rfl rfl 1 (by decide) (hts _ w_60) (fun _ h9 => h9) rfl d_Wall_side_29 ?_
  refine lv_isub hx hb d_Wall_side_32 ?_
  refine lv_i2l hx hb d_Wall_side_33 rfl ?_
  refine vp_callSl (va_Run.run (rf_runSN (As := [.long ((w.2.2.1 - w.1).toInt64), .long ((w.2.2.2 - w.2.1).toInt64), .long ((x - w.1).toInt64), .long ((y - w.2.1).toInt64)]) (rest := []) S0 ml_Wall_22 (c_RF_cross l D tys ((w.2.2.1 - w.1).toInt64) ((w.2.2.2 - w.2.1).toInt64) ((x - w.1).toInt64) ((y - w.2.1).toInt64)) hE trivial ⟨rfl, rfl, Nat.le_of_ble_eq_true rfl, Nat.le_of_ble_eq_true rfl⟩ rfl hl.1 rfl (Nat.le_of_ble_eq_true rfl) d_Wall_side_34 ⟨Nat.zero_le _, Nat.zero_le _⟩)) (fun r_1 h_2 => ?_)
  subst h_2
  exact W.lret (v := m_cross ((w.2.2.1 - w.1).toInt64) ((w.2.2.2 - w.2.1).toInt64) ((x - w.1).toInt64) ((y - w.2.1).toInt64)) hx hb hr (fun t ht hW => ⟨_, rfl, rfl, ht⟩) (fun _ h => absurd h List.not_mem_nil) d_Wall_side_37
set_option maxHeartbeats 4000000 in
set_option maxRecDepth 100000 in
theorem c_Wall_covers (l : Launch) (D : va_G) (tys : List (ClassId × FieldType)) (q : Nat) (w : Q4) (x y : Int32) : Met l y_Wall_covers (.code y_Wall_covers b_Wall_covers 3 (some (.boolean)) :: BIG) { frames := 2, cells := 0, slots := 0, locals := 80 } (rf_Pc D tys [.ref q, .int x, .int y] (fun h => va_P D vwCl [(q, e_W w)] h)) (vp_Si (fun r => rf_tf r (m_cov w x y))) 0 0 (fun _ => False) := by
  refine Met.ofW (cc := b_Wall_covers) (maxL := 3) (ret := (some (.boolean))) (by decide) rfl ?_
  intro p e s m args below meth c s₁ B hml hv
  obtain ⟨rfl, hE, hP⟩ := hv
  have hx := B.exec
  have hb := B.bytes
  have hr := B.returns
  have hts : ∀ w ∈ BIG, w.before [.ref q, .int x, .int y].toArray s = true := fun w h => atoms_spec (ws := .code y_Wall_covers b_Wall_covers 3 (some (.boolean)) :: BIG) B.pre w (List.mem_cons_of_mem _ h)
  have hown : s.vm.findClass "RayField$Wall" = some m.cls := findClass_of_methodNamed B.named
  have hlocks := B.notSynchronized
  have hK := hE.2
  have S0 : CallFix p m c b_Wall_covers 3 s [.ref q, .int x, .int y].toArray BIG "RayField$Wall" := ⟨hx, hb, hml, hown, hts⟩
  have hl := lv_entry ([.ref q, .int x, .int y]) (n := 3) (Nat.le_of_ble_eq_true rfl)
  rw [lg_entry_eq]
  generalize (lg_sl ([.ref q, .int x, .int y]) ++ List.replicate (3 - (lg_sl ([.ref q, .int x, .int y])).length) Slot.unset).toArray = ls at hl ⊢
  have hl : lv_has ls 3 [(0, .ref q), (1, .int x), (2, .int y)] := hl
  have hP : va_P D vwCl [(q, e_W w)] s.heap := hP
  refine lv_aload_n hx hb d_Wall_covers_0 rfl (lv_at hl 0 rfl) ?_
  refine lv_iload_n hx hb d_Wall_covers_1 rfl (lv_at hl 1 rfl) ?_
  refine lv_iload_n hx hb d_Wall_covers_2 rfl (lv_at hl 2 rfl) ?_
  refine vp_callSl (va_Run.run (rf_runV (As := [.int x, .int y]) (rest := []) S0 ml_Wall_28 (c_Wall_side l D tys q w x y) hE (va_recv hK hP (ci := 0) (q0 := 0) rfl rfl) (hP.sub [0] rfl) ⟨rfl, rfl, Nat.le_of_ble_eq_true rfl, Nat.le_of_ble_eq_true rfl⟩ rfl hl.1 rfl (Nat.le_of_ble_eq_true rfl) d_Wall_covers_3 ⟨Nat.zero_le _, Nat.zero_le _⟩)) (fun r_1 h_2 => ?_)
  subst h_2
  refine lv_lconst (v := 0) hx hb d_Wall_covers_6 (by decide) ?_
  refine rf_lcmp_ne (tgt := 73) hx hb d_Wall_covers_7 d_Wall_covers_8 (by decide) (fun c_3 => ?_) (fun c_3 => ?_)
  · refine lv_iconst (v := 0) hx hb d_Wall_covers_73 (by decide) ?_
    exact W.zret (v := 0) (ty := .boolean) hx hb hr rfl (fun t ht hW => ⟨_, rfl, (rf_F (fun h => c_3 h.1)), ht⟩) (fun _ h => absurd h List.not_mem_nil) d_Wall_covers_74
  · refine lv_iload_n hx hb d_Wall_covers_11 rfl (lv_at hl 1 rfl) ?_
    refine lv_aload_n hx hb d_Wall_covers_12 rfl (lv_at hl 0 rfl) ?_
    refine va_get (D := D) (ci := 0) (v := .int w.1) (C := "RayField$Wall") (T := F_Wall) (N := 4) hx hb hts in_Wall hown hK hP 0 rfl rfl 0 (by decide) (hts _ w_57) (fun _ h9 => h9) rfl d_Wall_covers_13 ?_
    refine lv_aload_n hx hb d_Wall_covers_16 rfl (lv_at hl 0 rfl) ?_
    refine va_get (D := D) (ci := 0) (v := .int w.2.2.1) (C := "RayField$Wall") (T := F_Wall) (N := 4) hx hb hts in_Wall hown hK hP 0 rfl rfl 2 (by decide) (hts _ w_63) (fun _ h9 => h9) rfl d_Wall_covers_17 ?_
    refine va_mmin hx hb (hml.trans hl.1.symm) hown (hts _ w_100) (hts _ w_101) (hts _ w_4) (hts _ w_102) (Nat.le_of_ble_eq_true rfl) (Nat.le_of_ble_eq_true rfl) (Nat.zero_le _) (Nat.zero_le _) d_Wall_covers_20 ?_
    refine rf_topi (y := m_min w.1 w.2.2.1) rfl ?_
    refine lv_aload_n hx hb d_Wall_covers_23 rfl (lv_at hl 0 rfl) ?_
    refine va_get (D := D) (ci := 0) (v := .int w.1) (C := "RayField$Wall") (T := F_Wall) (N := 4) hx hb hts in_Wall hown hK hP 0 rfl rfl 0 (by decide) (hts _ w_57) (fun _ h9 => h9) rfl d_Wall_covers_24 ?_
    refine lv_aload_n hx hb d_Wall_covers_27 rfl (lv_at hl 0 rfl) ?_
    refine va_get (D := D) (ci := 0) (v := .int w.2.2.1) (C := "RayField$Wall") (T := F_Wall) (N := 4) hx hb hts in_Wall hown hK hP 0 rfl rfl 2 (by decide) (hts _ w_63) (fun _ h9 => h9) rfl d_Wall_covers_28 ?_
    refine va_mmax hx hb (hml.trans hl.1.symm) hown (hts _ w_103) (hts _ w_104) (hts _ w_4) (hts _ w_105) (Nat.le_of_ble_eq_true rfl) (Nat.le_of_ble_eq_true rfl) (Nat.zero_le _) (Nat.zero_le _) d_Wall_covers_31 ?_
    refine rf_topi (y := m_max w.1 w.2.2.1) rfl ?_
    refine vp_callSi (va_Run.run (rf_runSN (As := [.int x, .int (m_min w.1 w.2.2.1), .int (m_max w.1 w.2.2.1)]) (rest := []) S0 ml_Wall_41 (c_RF_isBetween l D tys x (m_min w.1 w.2.2.1) (m_max w.1 w.2.2.1)) hE trivial ⟨rfl, rfl, Nat.le_of_ble_eq_true rfl, Nat.le_of_ble_eq_true rfl⟩ rfl hl.1 rfl (Nat.le_of_ble_eq_true rfl) d_Wall_covers_34 ⟨Nat.zero_le _, Nat.zero_le _⟩)) (fun r_4 h_5 => ?_)
    refine lv_if_eq (tgt := 73) hx hb d_Wall_covers_37 (by decide) (fun c_6 => ?_) (fun c_6 => ?_)
    · refine lv_iconst (v := 0) hx hb d_Wall_covers_73 (by decide) ?_
      exact W.zret (v := 0) (ty := .boolean) hx hb hr rfl (fun t ht hW => ⟨_, rfl, (rf_F (fun h => (h_5.f c_6) h.2.1)), ht⟩) (fun _ h => absurd h List.not_mem_nil) d_Wall_covers_74
    · refine lv_iload_n hx hb d_Wall_covers_40 rfl (lv_at hl 2 rfl) ?_
      refine lv_aload_n hx hb d_Wall_covers_41 rfl (lv_at hl 0 rfl) ?_
      refine va_get (D := D) (ci := 0) (v := .int w.2.1) (C := "RayField$Wall") (T := F_Wall) (N := 4) hx hb hts in_Wall hown hK hP 0 rfl rfl 1 (by decide) (hts _ w_60) (fun _ h9 => h9) rfl d_Wall_covers_42 ?_
      refine lv_aload_n hx hb d_Wall_covers_45 rfl (lv_at hl 0 rfl) ?_
      refine va_get (D := D) (ci := 0) (v := .int w.2.2.2) (C := "RayField$Wall") (T := F_Wall) (N := 4) hx hb hts in_Wall hown hK hP 0 rfl rfl 3 (by decide) (hts _ w_66) (fun _ h9 => h9) rfl d_Wall_covers_46 ?_
      refine va_mmin hx hb (hml.trans hl.1.symm) hown (hts _ w_100) (hts _ w_101) (hts _ w_4) (hts _ w_102) (Nat.le_of_ble_eq_true rfl) (Nat.le_of_ble_eq_true rfl) (Nat.zero_le _) (Nat.zero_le _) d_Wall_covers_49 ?_
      refine rf_topi (y := m_min w.2.1 w.2.2.2) rfl ?_
      refine lv_aload_n hx hb d_Wall_covers_52 rfl (lv_at hl 0 rfl) ?_
      refine va_get (D := D) (ci := 0) (v := .int w.2.1) (C := "RayField$Wall") (T := F_Wall) (N := 4) hx hb hts in_Wall hown hK hP 0 rfl rfl 1 (by decide) (hts _ w_60) (fun _ h9 => h9) rfl d_Wall_covers_53 ?_
      refine lv_aload_n hx hb d_Wall_covers_56 rfl (lv_at hl 0 rfl) ?_
      refine va_get (D := D) (ci := 0) (v := .int w.2.2.2) (C := "RayField$Wall") (T := F_Wall) (N := 4) hx hb hts in_Wall hown hK hP 0 rfl rfl 3 (by decide) (hts _ w_66) (fun _ h9 => h9) rfl d_Wall_covers_57 ?_
      refine va_mmax hx hb (hml.trans hl.1.symm) hown (hts _ w_103) (hts _ w_104) (hts _ w_4) (hts _ w_105) (Nat.le_of_ble_eq_true rfl) (Nat.le_of_ble_eq_true rfl) (Nat.zero_le _) (Nat.zero_le _) d_Wall_covers_60 ?_
      refine rf_topi (y := m_max w.2.1 w.2.2.2) rfl ?_
      refine vp_callSi (va_Run.run (rf_runSN (As := [.int y, .int (m_min w.2.1 w.2.2.2), .int (m_max w.2.1 w.2.2.2)]) (rest := []) S0 ml_Wall_41 (c_RF_isBetween l D tys y (m_min w.2.1 w.2.2.2) (m_max w.2.1 w.2.2.2)) hE trivial ⟨rfl, rfl, Nat.le_of_ble_eq_true rfl, Nat.le_of_ble_eq_true rfl⟩ rfl hl.1 rfl (Nat.le_of_ble_eq_true rfl) d_Wall_covers_63 ⟨Nat.zero_le _, Nat.zero_le _⟩)) (fun r_7 h_8 => ?_)
      refine lv_if_eq (tgt := 73) hx hb d_Wall_covers_66 (by decide) (fun c_9 => ?_) (fun c_9 => ?_)
      · refine lv_iconst (v := 0) hx hb d_Wall_covers_73 (by decide) ?_
        exact W.zret (v := 0) (ty := .boolean) hx hb hr rfl (fun t ht hW => ⟨_, rfl, (rf_F (fun h => (h_8.f c_9) h.2.2)), ht⟩) (fun _ h => absurd h List.not_mem_nil) d_Wall_covers_74
      · refine lv_iconst (v := 1) hx hb d_Wall_covers_69 (by decide) ?_
        refine lv_goto (tgt := 74) hx hb d_Wall_covers_70 (by decide) ?_
        exact W.zret (v := 1) (ty := .boolean) hx hb hr rfl (fun t ht hW => ⟨_, rfl, (rf_T ⟨c_3, (h_5.t c_6), (h_8.t c_9)⟩), ht⟩) (fun _ h => absurd h List.not_mem_nil) d_Wall_covers_74
set_option maxHeartbeats 4000000 in
set_option maxRecDepth 100000 in
theorem c_Wall_hasEnd (l : Launch) (D : va_G) (tys : List (ClassId × FieldType)) (q : Nat) (w : Q4) (x y : Int32) : Met l y_Wall_hasEnd (.code y_Wall_hasEnd b_Wall_hasEnd 3 (some (.boolean)) :: BIG) { frames := 0, cells := 0, slots := 0, locals := 0 } (rf_Pc D tys [.ref q, .int x, .int y] (fun h => va_P D vwCl [(q, e_W w)] h)) (vp_Si (fun r => rf_tf r (m_end w x y))) 0 0 (fun _ => False) := by
  refine Met.ofW (cc := b_Wall_hasEnd) (maxL := 3) (ret := (some (.boolean))) (by decide) rfl ?_
  intro p e s m args below meth c s₁ B hml hv
  obtain ⟨rfl, hE, hP⟩ := hv
  have hx := B.exec
  have hb := B.bytes
  have hr := B.returns
  have hts : ∀ w ∈ BIG, w.before [.ref q, .int x, .int y].toArray s = true := fun w h => atoms_spec (ws := .code y_Wall_hasEnd b_Wall_hasEnd 3 (some (.boolean)) :: BIG) B.pre w (List.mem_cons_of_mem _ h)
  have hown : s.vm.findClass "RayField$Wall" = some m.cls := findClass_of_methodNamed B.named
  have hlocks := B.notSynchronized
  have hK := hE.2
  have S0 : CallFix p m c b_Wall_hasEnd 3 s [.ref q, .int x, .int y].toArray BIG "RayField$Wall" := ⟨hx, hb, hml, hown, hts⟩
  have hl := lv_entry ([.ref q, .int x, .int y]) (n := 3) (Nat.le_of_ble_eq_true rfl)
  rw [lg_entry_eq]
  generalize (lg_sl ([.ref q, .int x, .int y]) ++ List.replicate (3 - (lg_sl ([.ref q, .int x, .int y])).length) Slot.unset).toArray = ls at hl ⊢
  have hl : lv_has ls 3 [(0, .ref q), (1, .int x), (2, .int y)] := hl
  have hP : va_P D vwCl [(q, e_W w)] s.heap := hP
  refine lv_iload_n hx hb d_Wall_hasEnd_0 rfl (lv_at hl 1 rfl) ?_
  refine lv_aload_n hx hb d_Wall_hasEnd_1 rfl (lv_at hl 0 rfl) ?_
  refine va_get (D := D) (ci := 0) (v := .int w.1) (C := "RayField$Wall") (T := F_Wall) (N := 4) hx hb hts in_Wall hown hK hP 0 rfl rfl 0 (by decide) (hts _ w_57) (fun _ h9 => h9) rfl d_Wall_hasEnd_2 ?_
  refine lv_icmp_ne (tgt := 16) hx hb d_Wall_hasEnd_5 (by decide) (fun c_1 => ?_) (fun c_1 => ?_)
  · refine lv_iload_n hx hb d_Wall_hasEnd_16 rfl (lv_at hl 1 rfl) ?_
    refine lv_aload_n hx hb d_Wall_hasEnd_17 rfl (lv_at hl 0 rfl) ?_
    refine va_get (D := D) (ci := 0) (v := .int w.2.2.1) (C := "RayField$Wall") (T := F_Wall) (N := 4) hx hb hts in_Wall hown hK hP 0 rfl rfl 2 (by decide) (hts _ w_63) (fun _ h9 => h9) rfl d_Wall_hasEnd_18 ?_
    refine lv_icmp_ne (tgt := 36) hx hb d_Wall_hasEnd_21 (by decide) (fun c_2 => ?_) (fun c_2 => ?_)
    · refine lv_iconst (v := 0) hx hb d_Wall_hasEnd_36 (by decide) ?_
      exact W.zret (v := 0) (ty := .boolean) hx hb hr rfl (fun t ht hW => ⟨_, rfl, (rf_F (fun h => h.elim (fun h => c_1 h.1) (fun h => c_2 h.1))), ht⟩) (fun _ h => absurd h List.not_mem_nil) d_Wall_hasEnd_37
    · refine lv_iload_n hx hb d_Wall_hasEnd_24 rfl (lv_at hl 2 rfl) ?_
      refine lv_aload_n hx hb d_Wall_hasEnd_25 rfl (lv_at hl 0 rfl) ?_
      refine va_get (D := D) (ci := 0) (v := .int w.2.2.2) (C := "RayField$Wall") (T := F_Wall) (N := 4) hx hb hts in_Wall hown hK hP 0 rfl rfl 3 (by decide) (hts _ w_66) (fun _ h9 => h9) rfl d_Wall_hasEnd_26 ?_
      refine lv_icmp_ne (tgt := 36) hx hb d_Wall_hasEnd_29 (by decide) (fun c_3 => ?_) (fun c_3 => ?_)
      · refine lv_iconst (v := 0) hx hb d_Wall_hasEnd_36 (by decide) ?_
        exact W.zret (v := 0) (ty := .boolean) hx hb hr rfl (fun t ht hW => ⟨_, rfl, (rf_F (fun h => h.elim (fun h => c_1 h.1) (fun h => c_3 h.2))), ht⟩) (fun _ h => absurd h List.not_mem_nil) d_Wall_hasEnd_37
      · refine lv_iconst (v := 1) hx hb d_Wall_hasEnd_32 (by decide) ?_
        refine lv_goto (tgt := 37) hx hb d_Wall_hasEnd_33 (by decide) ?_
        exact W.zret (v := 1) (ty := .boolean) hx hb hr rfl (fun t ht hW => ⟨_, rfl, (rf_T (Or.inr ⟨c_2, c_3⟩)), ht⟩) (fun _ h => absurd h List.not_mem_nil) d_Wall_hasEnd_37
  · refine lv_iload_n hx hb d_Wall_hasEnd_8 rfl (lv_at hl 2 rfl) ?_
    refine lv_aload_n hx hb d_Wall_hasEnd_9 rfl (lv_at hl 0 rfl) ?_
    refine va_get (D := D) (ci := 0) (v := .int w.2.1) (C := "RayField$Wall") (T := F_Wall) (N := 4) hx hb hts in_Wall hown hK hP 0 rfl rfl 1 (by decide) (hts _ w_60) (fun _ h9 => h9) rfl d_Wall_hasEnd_10 ?_
    refine lv_icmp_eq (tgt := 32) hx hb d_Wall_hasEnd_13 (by decide) (fun c_4 => ?_) (fun c_4 => ?_)
    · refine lv_iconst (v := 1) hx hb d_Wall_hasEnd_32 (by decide) ?_
      refine lv_goto (tgt := 37) hx hb d_Wall_hasEnd_33 (by decide) ?_
      exact W.zret (v := 1) (ty := .boolean) hx hb hr rfl (fun t ht hW => ⟨_, rfl, (rf_T (Or.inl ⟨c_1, c_4⟩)), ht⟩) (fun _ h => absurd h List.not_mem_nil) d_Wall_hasEnd_37
    · refine lv_iload_n hx hb d_Wall_hasEnd_16 rfl (lv_at hl 1 rfl) ?_
      refine lv_aload_n hx hb d_Wall_hasEnd_17 rfl (lv_at hl 0 rfl) ?_
      refine va_get (D := D) (ci := 0) (v := .int w.2.2.1) (C := "RayField$Wall") (T := F_Wall) (N := 4) hx hb hts in_Wall hown hK hP 0 rfl rfl 2 (by decide) (hts _ w_63) (fun _ h9 => h9) rfl d_Wall_hasEnd_18 ?_
      refine lv_icmp_ne (tgt := 36) hx hb d_Wall_hasEnd_21 (by decide) (fun c_5 => ?_) (fun c_5 => ?_)
      · refine lv_iconst (v := 0) hx hb d_Wall_hasEnd_36 (by decide) ?_
        exact W.zret (v := 0) (ty := .boolean) hx hb hr rfl (fun t ht hW => ⟨_, rfl, (rf_F (fun h => h.elim (fun h => c_4 h.2) (fun h => c_5 h.1))), ht⟩) (fun _ h => absurd h List.not_mem_nil) d_Wall_hasEnd_37
      · refine lv_iload_n hx hb d_Wall_hasEnd_24 rfl (lv_at hl 2 rfl) ?_
        refine lv_aload_n hx hb d_Wall_hasEnd_25 rfl (lv_at hl 0 rfl) ?_
        refine va_get (D := D) (ci := 0) (v := .int w.2.2.2) (C := "RayField$Wall") (T := F_Wall) (N := 4) hx hb hts in_Wall hown hK hP 0 rfl rfl 3 (by decide) (hts _ w_66) (fun _ h9 => h9) rfl d_Wall_hasEnd_26 ?_
        refine lv_icmp_ne (tgt := 36) hx hb d_Wall_hasEnd_29 (by decide) (fun c_6 => ?_) (fun c_6 => ?_)
        · refine lv_iconst (v := 0) hx hb d_Wall_hasEnd_36 (by decide) ?_
          exact W.zret (v := 0) (ty := .boolean) hx hb hr rfl (fun t ht hW => ⟨_, rfl, (rf_F (fun h => h.elim (fun h => c_4 h.2) (fun h => c_6 h.2))), ht⟩) (fun _ h => absurd h List.not_mem_nil) d_Wall_hasEnd_37
        · refine lv_iconst (v := 1) hx hb d_Wall_hasEnd_32 (by decide) ?_
          refine lv_goto (tgt := 37) hx hb d_Wall_hasEnd_33 (by decide) ?_
          exact W.zret (v := 1) (ty := .boolean) hx hb hr rfl (fun t ht hW => ⟨_, rfl, (rf_T (Or.inr ⟨c_5, c_6⟩)), ht⟩) (fun _ h => absurd h List.not_mem_nil) d_Wall_hasEnd_37
set_option maxHeartbeats 4000000 in
set_option maxRecDepth 100000 in
theorem c_Wall_commonLength (l : Launch) (D : va_G) (tys : List (ClassId × FieldType)) (x1 x2 x3 x4 : Int32) : Met l y_Wall_commonLength (.code y_Wall_commonLength b_Wall_commonLength 6 (some (.int)) :: BIG) { frames := 1, cells := 0, slots := 0, locals := 40 } (rf_Pc D tys [.int x1, .int x2, .int x3, .int x4] (fun _ => True)) (vp_Si (fun r => r = m_len x1 x2 x3 x4)) 0 0 (fun _ => False) := by
  refine Met.ofW (cc := b_Wall_commonLength) (maxL := 6) (ret := (some (.int))) (by decide) rfl ?_
  intro p e s m args below meth c s₁ B hml hv
  obtain ⟨rfl, hE, hP⟩ := hv
  have hx := B.exec
  have hb := B.bytes
  have hr := B.returns
  have hts : ∀ w ∈ BIG, w.before [.int x1, .int x2, .int x3, .int x4].toArray s = true := fun w h => atoms_spec (ws := .code y_Wall_commonLength b_Wall_commonLength 6 (some (.int)) :: BIG) B.pre w (List.mem_cons_of_mem _ h)
  have hown : s.vm.findClass "RayField$Wall" = some m.cls := findClass_of_methodNamed B.named
  have hlocks := B.notSynchronized
  have hK := hE.2
  have S0 : CallFix p m c b_Wall_commonLength 6 s [.int x1, .int x2, .int x3, .int x4].toArray BIG "RayField$Wall" := ⟨hx, hb, hml, hown, hts⟩
  have hl := lv_entry ([.int x1, .int x2, .int x3, .int x4]) (n := 6) (Nat.le_of_ble_eq_true rfl)
  rw [lg_entry_eq]
  generalize (lg_sl ([.int x1, .int x2, .int x3, .int x4]) ++ List.replicate (6 - (lg_sl ([.int x1, .int x2, .int x3, .int x4])).length) Slot.unset).toArray = ls at hl ⊢
  have hl : lv_has ls 6 [(0, .int x1), (1, .int x2), (2, .int x3), (3, .int x4)] := hl
  refine lv_iload_n hx hb d_Wall_commonLength_0 rfl (lv_at hl 0 rfl) ?_
  refine lv_iload_n hx hb d_Wall_commonLength_1 rfl (lv_at hl 1 rfl) ?_
  refine va_mmin hx hb (hml.trans hl.1.symm) hown (hts _ w_100) (hts _ w_101) (hts _ w_4) (hts _ w_102) (Nat.le_of_ble_eq_true rfl) (Nat.le_of_ble_eq_true rfl) (Nat.zero_le _) (Nat.zero_le _) d_Wall_commonLength_2 ?_
  refine rf_topi (y := m_min x1 x2) rfl ?_
  refine lv_iload_n hx hb d_Wall_commonLength_5 rfl (lv_at hl 2 rfl) ?_
  refine lv_iload_n hx hb d_Wall_commonLength_6 rfl (lv_at hl 3 rfl) ?_
  refine va_mmin hx hb (hml.trans hl.1.symm) hown (hts _ w_100) (hts _ w_101) (hts _ w_4) (hts _ w_102) (Nat.le_of_ble_eq_true rfl) (Nat.le_of_ble_eq_true rfl) (Nat.zero_le _) (Nat.zero_le _) d_Wall_commonLength_7 ?_
  refine rf_topi (y := m_min x3 x4) rfl ?_
  refine va_mmax hx hb (hml.trans hl.1.symm) hown (hts _ w_103) (hts _ w_104) (hts _ w_4) (hts _ w_105) (Nat.le_of_ble_eq_true rfl) (Nat.le_of_ble_eq_true rfl) (Nat.zero_le _) (Nat.zero_le _) d_Wall_commonLength_10 ?_
  refine rf_topi (y := m_max (m_min x1 x2) (m_min x3 x4)) rfl ?_
  refine lv_istore (lv' := [(4, .int (m_max (m_min x1 x2) (m_min x3 x4))), (0, .int x1), (1, .int x2), (2, .int x3), (3, .int x4)]) hx hb d_Wall_commonLength_13 hl (by decide) rfl (fun ls hl => ?_)
  refine lv_iload_n hx hb d_Wall_commonLength_15 rfl (lv_at hl 1 rfl) ?_
  refine lv_iload_n hx hb d_Wall_commonLength_16 rfl (lv_at hl 2 rfl) ?_
  refine va_mmax hx hb (hml.trans hl.1.symm) hown (hts _ w_103) (hts _ w_104) (hts _ w_4) (hts _ w_105) (Nat.le_of_ble_eq_true rfl) (Nat.le_of_ble_eq_true rfl) (Nat.zero_le _) (Nat.zero_le _) d_Wall_commonLength_17 ?_
  refine rf_topi (y := m_max x1 x2) rfl ?_
  refine lv_iload_n hx hb d_Wall_commonLength_20 rfl (lv_at hl 3 rfl) ?_
  refine lv_iload_n hx hb d_Wall_commonLength_21 rfl (lv_at hl 4 rfl) ?_
  refine va_mmax hx hb (hml.trans hl.1.symm) hown (hts _ w_103) (hts _ w_104) (hts _ w_4) (hts _ w_105) (Nat.le_of_ble_eq_true rfl) (Nat.le_of_ble_eq_true rfl) (Nat.zero_le _) (Nat.zero_le _) d_Wall_commonLength_22 ?_
  refine rf_topi (y := m_max x3 x4) rfl ?_
  refine va_mmin hx hb (hml.trans hl.1.symm) hown (hts _ w_100) (hts _ w_101) (hts _ w_4) (hts _ w_102) (Nat.le_of_ble_eq_true rfl) (Nat.le_of_ble_eq_true rfl) (Nat.zero_le _) (Nat.zero_le _) d_Wall_commonLength_25 ?_
  refine rf_topi (y := m_min (m_max x1 x2) (m_max x3 x4)) rfl ?_
  refine lv_istore (lv' := [(5, .int (m_min (m_max x1 x2) (m_max x3 x4))), (4, .int (m_max (m_min x1 x2) (m_min x3 x4))), (0, .int x1), (1, .int x2), (2, .int x3), (3, .int x4)]) hx hb d_Wall_commonLength_28 hl (by decide) rfl (fun ls hl => ?_)
  refine lv_iload hx hb d_Wall_commonLength_30 (lv_at hl 0 rfl) ?_
  refine lv_iload hx hb d_Wall_commonLength_32 (lv_at hl 1 rfl) ?_
  refine lv_isub hx hb d_Wall_commonLength_34 ?_
  exact W.iret (v := (m_min (m_max x1 x2) (m_max x3 x4)) - (m_max (m_min x1 x2) (m_min x3 x4))) hx hb hr (fun t ht hW => ⟨_, rfl, rfl, ht⟩) (fun _ h => absurd h List.not_mem_nil) d_Wall_commonLength_35
set_option maxHeartbeats 4000000 in
set_option maxRecDepth 100000 in
theorem c_Wall_overlaps (l : Launch) (D : va_G) (tys : List (ClassId × FieldType)) (q q2 : Nat) (v w : Q4) : Met l y_Wall_overlapsOnItsLine (.code y_Wall_overlapsOnItsLine b_Wall_overlapsOnItsLine 2 (some (.boolean)) :: BIG) { frames := 2, cells := 0, slots := 0, locals := 80 } (rf_Pc D tys [.ref q, .ref q2] (fun h => va_P D vwCl [(q, e_W v), (q2, e_W w)] h)) (vp_Si (fun r => rf_tf r (m_ovl v w))) 0 0 (fun _ => False) := by
  refine Met.ofW (cc := b_Wall_overlapsOnItsLine) (maxL := 2) (ret := (some (.boolean))) (by decide) rfl ?_
  intro p e s m args below meth c s₁ B hml hv
  obtain ⟨rfl, hE, hP⟩ := hv
  have hx := B.exec
  have hb := B.bytes
  have hr := B.returns
  have hts : ∀ w ∈ BIG, w.before [.ref q, .ref q2].toArray s = true := fun w h => atoms_spec (ws := .code y_Wall_overlapsOnItsLine b_Wall_overlapsOnItsLine 2 (some (.boolean)) :: BIG) B.pre w (List.mem_cons_of_mem _ h)
  have hown : s.vm.findClass "RayField$Wall" = some m.cls := findClass_of_methodNamed B.named
  have hlocks := B.notSynchronized
  have hK := hE.2
  have S0 : CallFix p m c b_Wall_overlapsOnItsLine 2 s [.ref q, .ref q2].toArray BIG "RayField$Wall" := ⟨hx, hb, hml, hown, hts⟩
  have hl := lv_entry ([.ref q, .ref q2]) (n := 2) (Nat.le_of_ble_eq_true rfl)
  rw [lg_entry_eq]
  generalize (lg_sl ([.ref q, .ref q2]) ++ List.replicate (2 - (lg_sl ([.ref q, .ref q2])).length) Slot.unset).toArray = ls at hl ⊢
  have hl : lv_has ls 2 [(0, .ref q), (1, .ref q2)] := hl
  have hP : va_P D vwCl [(q, e_W v), (q2, e_W w)] s.heap := hP
  refine lv_aload_n hx hb d_Wall_overlapsOnItsLine_0 rfl (lv_at hl 0 rfl) ?_
  refine va_get (D := D) (ci := 0) (v := .int v.1) (C := "RayField$Wall") (T := F_Wall) (N := 4) hx hb hts in_Wall hown hK hP 0 rfl rfl 0 (by decide) (hts _ w_57) (fun _ h9 => h9) rfl d_Wall_overlapsOnItsLine_1 ?_
  refine lv_aload_n hx hb d_Wall_overlapsOnItsLine_4 rfl (lv_at hl 0 rfl) ?_
  refine va_get (D := D) (ci := 0) (v := .int v.2.2.1) (C := "RayField$Wall") (T := F_Wall) (N := 4) hx hb hts in_Wall hown hK hP 0 rfl rfl 2 (by decide) (hts _ w_63) (fun _ h9 => h9) rfl d_Wall_overlapsOnItsLine_5 ?_
  refine lv_aload_n hx hb d_Wall_overlapsOnItsLine_8 rfl (lv_at hl 1 rfl) ?_
  refine va_get (D := D) (ci := 0) (v := .int w.1) (C := "RayField$Wall") (T := F_Wall) (N := 4) hx hb hts in_Wall hown hK hP 1 rfl rfl 0 (by decide) (hts _ w_57) (fun _ h9 => h9) rfl d_Wall_overlapsOnItsLine_9 ?_
  refine lv_aload_n hx hb d_Wall_overlapsOnItsLine_12 rfl (lv_at hl 1 rfl) ?_
  refine va_get (D := D) (ci := 0) (v := .int w.2.2.1) (C := "RayField$Wall") (T := F_Wall) (N := 4) hx hb hts in_Wall hown hK hP 1 rfl rfl 2 (by decide) (hts _ w_63) (fun _ h9 => h9) rfl d_Wall_overlapsOnItsLine_13 ?_
  refine vp_callSi (va_Run.run (rf_runS (As := [.int v.1, .int v.2.2.1, .int w.1, .int w.2.2.1]) (rest := []) S0 ml_Wall_52 (c_Wall_commonLength l D tys v.1 v.2.2.1 w.1 w.2.2.1) hE trivial ⟨rfl, rfl, Nat.le_of_ble_eq_true rfl, Nat.le_of_ble_eq_true rfl⟩ rfl hl.1 rfl (Nat.le_of_ble_eq_true rfl) d_Wall_overlapsOnItsLine_16 ⟨Nat.zero_le _, Nat.zero_le _⟩)) (fun r_1 h_2 => ?_)
  subst h_2
  refine lv_if_gt (tgt := 44) hx hb d_Wall_overlapsOnItsLine_19 (by decide) (fun c_3 => ?_) (fun c_3 => ?_)
  · refine lv_iconst (v := 1) hx hb d_Wall_overlapsOnItsLine_44 (by decide) ?_
    refine lv_goto (tgt := 49) hx hb d_Wall_overlapsOnItsLine_45 (by decide) ?_
    exact W.zret (v := 1) (ty := .boolean) hx hb hr rfl (fun t ht hW => ⟨_, rfl, (rf_T (Or.inl c_3)), ht⟩) (fun _ h => absurd h List.not_mem_nil) d_Wall_overlapsOnItsLine_49
  · refine lv_aload_n hx hb d_Wall_overlapsOnItsLine_22 rfl (lv_at hl 0 rfl) ?_
    refine va_get (D := D) (ci := 0) (v := .int v.2.1) (C := "RayField$Wall") (T := F_Wall) (N := 4) hx hb hts in_Wall hown hK hP 0 rfl rfl 1 (by decide) (hts _ w_60) (fun _ h9 => h9) rfl d_Wall_overlapsOnItsLine_23 ?_
    refine lv_aload_n hx hb d_Wall_overlapsOnItsLine_26 rfl (lv_at hl 0 rfl) ?_
    refine va_get (D := D) (ci := 0) (v := .int v.2.2.2) (C := "RayField$Wall") (T := F_Wall) (N := 4) hx hb hts in_Wall hown hK hP 0 rfl rfl 3 (by decide) (hts _ w_66) (fun _ h9 => h9) rfl d_Wall_overlapsOnItsLine_27 ?_
    refine lv_aload_n hx hb d_Wall_overlapsOnItsLine_30 rfl (lv_at hl 1 rfl) ?_
    refine va_get (D := D) (ci := 0) (v := .int w.2.1) (C := "RayField$Wall") (T := F_Wall) (N := 4) hx hb hts in_Wall hown hK hP 1 rfl rfl 1 (by decide) (hts _ w_60) (fun _ h9 => h9) rfl d_Wall_overlapsOnItsLine_31 ?_
    refine lv_aload_n hx hb d_Wall_overlapsOnItsLine_34 rfl (lv_at hl 1 rfl) ?_
    refine va_get (D := D) (ci := 0) (v := .int w.2.2.2) (C := "RayField$Wall") (T := F_Wall) (N := 4) hx hb hts in_Wall hown hK hP 1 rfl rfl 3 (by decide) (hts _ w_66) (fun _ h9 => h9) rfl d_Wall_overlapsOnItsLine_35 ?_
    refine vp_callSi (va_Run.run (rf_runS (As := [.int v.2.1, .int v.2.2.2, .int w.2.1, .int w.2.2.2]) (rest := []) S0 ml_Wall_52 (c_Wall_commonLength l D tys v.2.1 v.2.2.2 w.2.1 w.2.2.2) hE trivial ⟨rfl, rfl, Nat.le_of_ble_eq_true rfl, Nat.le_of_ble_eq_true rfl⟩ rfl hl.1 rfl (Nat.le_of_ble_eq_true rfl) d_Wall_overlapsOnItsLine_38 ⟨Nat.zero_le _, Nat.zero_le _⟩)) (fun r_4 h_5 => ?_)
    subst h_5
    refine lv_if_le (tgt := 48) hx hb d_Wall_overlapsOnItsLine_41 (by decide) (fun c_6 => ?_) (fun c_6 => ?_)
    · refine lv_iconst (v := 0) hx hb d_Wall_overlapsOnItsLine_48 (by decide) ?_
      exact W.zret (v := 0) (ty := .boolean) hx hb hr rfl (fun t ht hW => ⟨_, rfl, (rf_F (fun h => h.elim c_3 (Int32.not_lt.mpr c_6))), ht⟩) (fun _ h => absurd h List.not_mem_nil) d_Wall_overlapsOnItsLine_49
    · refine lv_iconst (v := 1) hx hb d_Wall_overlapsOnItsLine_44 (by decide) ?_
      refine lv_goto (tgt := 49) hx hb d_Wall_overlapsOnItsLine_45 (by decide) ?_
      exact W.zret (v := 1) (ty := .boolean) hx hb hr rfl (fun t ht hW => ⟨_, rfl, (rf_T (Or.inr (Int32.not_le.mp c_6))), ht⟩) (fun _ h => absurd h List.not_mem_nil) d_Wall_overlapsOnItsLine_49
set_option maxHeartbeats 4000000 in
set_option maxRecDepth 100000 in
theorem c_Wall_shares (l : Launch) (D : va_G) (tys : List (ClassId × FieldType)) (q q2 : Nat) (v w : Q4) : Met l y_Wall_sharesEndWith (.code y_Wall_sharesEndWith b_Wall_sharesEndWith 2 (some (.boolean)) :: BIG) { frames := 1, cells := 0, slots := 0, locals := 40 } (rf_Pc D tys [.ref q, .ref q2] (fun h => va_P D vwCl [(q, e_W v), (q2, e_W w)] h)) (vp_Si (fun r => rf_tf r (m_shares v w))) 0 0 (fun _ => False) := by
  refine Met.ofW (cc := b_Wall_sharesEndWith) (maxL := 2) (ret := (some (.boolean))) (by decide) rfl ?_
  intro p e s m args below meth c s₁ B hml hv
  obtain ⟨rfl, hE, hP⟩ := hv
  have hx := B.exec
  have hb := B.bytes
  have hr := B.returns
  have hts : ∀ w ∈ BIG, w.before [.ref q, .ref q2].toArray s = true := fun w h => atoms_spec (ws := .code y_Wall_sharesEndWith b_Wall_sharesEndWith 2 (some (.boolean)) :: BIG) B.pre w (List.mem_cons_of_mem _ h)
  have hown : s.vm.findClass "RayField$Wall" = some m.cls := findClass_of_methodNamed B.named
  have hlocks := B.notSynchronized
  have hK := hE.2
  have S0 : CallFix p m c b_Wall_sharesEndWith 2 s [.ref q, .ref q2].toArray BIG "RayField$Wall" := ⟨hx, hb, hml, hown, hts⟩
  have hl := lv_entry ([.ref q, .ref q2]) (n := 2) (Nat.le_of_ble_eq_true rfl)
  rw [lg_entry_eq]
  generalize (lg_sl ([.ref q, .ref q2]) ++ List.replicate (2 - (lg_sl ([.ref q, .ref q2])).length) Slot.unset).toArray = ls at hl ⊢
  have hl : lv_has ls 2 [(0, .ref q), (1, .ref q2)] := hl
  have hP : va_P D vwCl [(q, e_W v), (q2, e_W w)] s.heap := hP
  refine lv_aload_n hx hb d_Wall_sharesEndWith_0 rfl (lv_at hl 1 rfl) ?_
  refine lv_aload_n hx hb d_Wall_sharesEndWith_1 rfl (lv_at hl 0 rfl) ?_
  refine va_get (D := D) (ci := 0) (v := .int v.1) (C := "RayField$Wall") (T := F_Wall) (N := 4) hx hb hts in_Wall hown hK hP 0 rfl rfl 0 (by decide) (hts _ w_57) (fun _ h9 => h9) rfl d_Wall_sharesEndWith_2 ?_
  refine lv_aload_n hx hb d_Wall_sharesEndWith_5 rfl (lv_at hl 0 rfl) ?_
  refine va_get (D := D) (ci := 0) (v := .int v.2.1) (C := "RayField$Wall") (T := F_Wall) (N := 4) hx hb hts in_Wall hown hK hP 0 rfl rfl 1 (by decide) (hts _ w_60) (fun _ h9 => h9) rfl d_Wall_sharesEndWith_6 ?_
  refine vp_callSi (va_Run.run (rf_runV (As := [.int v.1, .int v.2.1]) (rest := []) S0 ml_Wall_56 (c_Wall_hasEnd l D tys q2 w v.1 v.2.1) hE (va_recv hK hP (ci := 0) (q0 := 1) rfl rfl) (hP.sub [1] rfl) ⟨rfl, rfl, Nat.le_of_ble_eq_true rfl, Nat.le_of_ble_eq_true rfl⟩ rfl hl.1 rfl (Nat.le_of_ble_eq_true rfl) d_Wall_sharesEndWith_9 ⟨Nat.zero_le _, Nat.zero_le _⟩)) (fun r_1 h_2 => ?_)
  refine lv_if_ne (tgt := 30) hx hb d_Wall_sharesEndWith_12 (by decide) (fun c_3 => ?_) (fun c_3 => ?_)
  · refine lv_iconst (v := 1) hx hb d_Wall_sharesEndWith_30 (by decide) ?_
    refine lv_goto (tgt := 35) hx hb d_Wall_sharesEndWith_31 (by decide) ?_
    exact W.zret (v := 1) (ty := .boolean) hx hb hr rfl (fun t ht hW => ⟨_, rfl, (rf_T (Or.inl (h_2.t c_3))), ht⟩) (fun _ h => absurd h List.not_mem_nil) d_Wall_sharesEndWith_35
  · refine lv_aload_n hx hb d_Wall_sharesEndWith_15 rfl (lv_at hl 1 rfl) ?_
    refine lv_aload_n hx hb d_Wall_sharesEndWith_16 rfl (lv_at hl 0 rfl) ?_
    refine va_get (D := D) (ci := 0) (v := .int v.2.2.1) (C := "RayField$Wall") (T := F_Wall) (N := 4) hx hb hts in_Wall hown hK hP 0 rfl rfl 2 (by decide) (hts _ w_63) (fun _ h9 => h9) rfl d_Wall_sharesEndWith_17 ?_
    refine lv_aload_n hx hb d_Wall_sharesEndWith_20 rfl (lv_at hl 0 rfl) ?_
    refine va_get (D := D) (ci := 0) (v := .int v.2.2.2) (C := "RayField$Wall") (T := F_Wall) (N := 4) hx hb hts in_Wall hown hK hP 0 rfl rfl 3 (by decide) (hts _ w_66) (fun _ h9 => h9) rfl d_Wall_sharesEndWith_21 ?_
    refine vp_callSi (va_Run.run (rf_runV (As := [.int v.2.2.1, .int v.2.2.2]) (rest := []) S0 ml_Wall_56 (c_Wall_hasEnd l D tys q2 w v.2.2.1 v.2.2.2) hE (va_recv hK hP (ci := 0) (q0 := 1) rfl rfl) (hP.sub [1] rfl) ⟨rfl, rfl, Nat.le_of_ble_eq_true rfl, Nat.le_of_ble_eq_true rfl⟩ rfl hl.1 rfl (Nat.le_of_ble_eq_true rfl) d_Wall_sharesEndWith_24 ⟨Nat.zero_le _, Nat.zero_le _⟩)) (fun r_4 h_5 => ?_)
    refine lv_if_eq (tgt := 34) hx hb d_Wall_sharesEndWith_27 (by decide) (fun c_6 => ?_) (fun c_6 => ?_)
    · refine lv_iconst (v := 0) hx hb d_Wall_sharesEndWith_34 (by decide) ?_
      exact W.zret (v := 0) (ty := .boolean) hx hb hr rfl (fun t ht hW => ⟨_, rfl, (rf_F (fun h => h.elim (h_2.f c_3) (h_5.f c_6))), ht⟩) (fun _ h => absurd h List.not_mem_nil) d_Wall_sharesEndWith_35
    · refine lv_iconst (v := 1) hx hb d_Wall_sharesEndWith_30 (by decide) ?_
      refine lv_goto (tgt := 35) hx hb d_Wall_sharesEndWith_31 (by decide) ?_
      exact W.zret (v := 1) (ty := .boolean) hx hb hr rfl (fun t ht hW => ⟨_, rfl, (rf_T (Or.inr (h_5.t c_6))), ht⟩) (fun _ h => absurd h List.not_mem_nil) d_Wall_sharesEndWith_35
set_option maxHeartbeats 4000000 in
set_option maxRecDepth 100000 in
theorem c_Wall_clashesWith (l : Launch) (D : va_G) (tys : List (ClassId × FieldType)) (q q2 : Nat) (v w : Q4) : Met l y_Wall_clashesWith (.code y_Wall_clashesWith b_Wall_clashesWith 6 (some (.boolean)) :: BIG) { frames := 3, cells := 0, slots := 0, locals := 120 } (rf_Pc D tys [.ref q, .ref q2] (fun h => va_P D vwCl [(q, e_W v), (q2, e_W w)] h)) (vp_Si (fun r => rf_tf r (m_clash v w))) 0 0 (fun _ => False) := by
  refine Met.ofW (cc := b_Wall_clashesWith) (maxL := 6) (ret := (some (.boolean))) (by decide) rfl ?_
  intro p e s m args below meth c s₁ B hml hv
  obtain ⟨rfl, hE, hP⟩ := hv
  have hx := B.exec
  have hb := B.bytes
  have hr := B.returns
  have hts : ∀ w ∈ BIG, w.before [.ref q, .ref q2].toArray s = true := fun w h => atoms_spec (ws := .code y_Wall_clashesWith b_Wall_clashesWith 6 (some (.boolean)) :: BIG) B.pre w (List.mem_cons_of_mem _ h)
  have hown : s.vm.findClass "RayField$Wall" = some m.cls := findClass_of_methodNamed B.named
  have hlocks := B.notSynchronized
  have hK := hE.2
  have S0 : CallFix p m c b_Wall_clashesWith 6 s [.ref q, .ref q2].toArray BIG "RayField$Wall" := ⟨hx, hb, hml, hown, hts⟩
  have hl := lv_entry ([.ref q, .ref q2]) (n := 6) (Nat.le_of_ble_eq_true rfl)
  rw [lg_entry_eq]
  generalize (lg_sl ([.ref q, .ref q2]) ++ List.replicate (6 - (lg_sl ([.ref q, .ref q2])).length) Slot.unset).toArray = ls at hl ⊢
  have hl : lv_has ls 6 [(0, .ref q), (1, .ref q2)] := hl
  have hP : va_P D vwCl [(q, e_W v), (q2, e_W w)] s.heap := hP
  refine lv_aload_n hx hb d_Wall_clashesWith_0 rfl (lv_at hl 0 rfl) ?_
  refine lv_aload_n hx hb d_Wall_clashesWith_1 rfl (lv_at hl 1 rfl) ?_
  refine va_get (D := D) (ci := 0) (v := .int w.1) (C := "RayField$Wall") (T := F_Wall) (N := 4) hx hb hts in_Wall hown hK hP 1 rfl rfl 0 (by decide) (hts _ w_57) (fun _ h9 => h9) rfl d_Wall_clashesWith_2 ?_
  refine lv_aload_n hx hb d_Wall_clashesWith_5 rfl (lv_at hl 1 rfl) ?_
  refine va_get (D := D) (ci := 0) (v := .int w.2.1) (C := "RayField$Wall") (T := F_Wall) (N := 4) hx hb hts in_Wall hown hK hP 1 rfl rfl 1 (by decide) (hts _ w_60) (fun _ h9 => h9) rfl d_Wall_clashesWith_6 ?_
  refine vp_callSl (va_Run.run (rf_runV (As := [.int w.1, .int w.2.1]) (rest := []) S0 ml_Wall_28 (c_Wall_side l D tys q v w.1 w.2.1) hE (va_recv hK hP (ci := 0) (q0 := 0) rfl rfl) (hP.sub [0] rfl) ⟨rfl, rfl, Nat.le_of_ble_eq_true rfl, Nat.le_of_ble_eq_true rfl⟩ rfl hl.1 rfl (Nat.le_of_ble_eq_true rfl) d_Wall_clashesWith_9 ⟨Nat.zero_le _, Nat.zero_le _⟩)) (fun r_1 h_2 => ?_)
  subst h_2
  refine lv_lstore_n (lv' := [(2, .long (m_side v w.1 w.2.1)), (0, .ref q), (1, .ref q2)]) hx hb d_Wall_clashesWith_12 rfl hl (by decide) rfl (fun ls hl => ?_)
  refine lv_aload_n hx hb d_Wall_clashesWith_13 rfl (lv_at hl 1 rfl) ?_
  refine lv_aload_n hx hb d_Wall_clashesWith_14 rfl (lv_at hl 2 rfl) ?_
  refine va_get (D := D) (ci := 0) (v := .int w.2.2.1) (C := "RayField$Wall") (T := F_Wall) (N := 4) hx hb hts in_Wall hown hK hP 1 rfl rfl 2 (by decide) (hts _ w_63) (fun _ h9 => h9) rfl d_Wall_clashesWith_15 ?_
  refine lv_aload_n hx hb d_Wall_clashesWith_18 rfl (lv_at hl 2 rfl) ?_
  refine va_get (D := D) (ci := 0) (v := .int w.2.2.2) (C := "RayField$Wall") (T := F_Wall) (N := 4) hx hb hts in_Wall hown hK hP 1 rfl rfl 3 (by decide) (hts _ w_66) (fun _ h9 => h9) rfl d_Wall_clashesWith_19 ?_
  refine vp_callSl (va_Run.run (rf_runV (As := [.int w.2.2.1, .int w.2.2.2]) (rest := []) S0 ml_Wall_28 (c_Wall_side l D tys q v w.2.2.1 w.2.2.2) hE (va_recv hK hP (ci := 0) (q0 := 0) rfl rfl) (hP.sub [0] rfl) ⟨rfl, rfl, Nat.le_of_ble_eq_true rfl, Nat.le_of_ble_eq_true rfl⟩ rfl hl.1 rfl (Nat.le_of_ble_eq_true rfl) d_Wall_clashesWith_22 ⟨Nat.zero_le _, Nat.zero_le _⟩)) (fun r_3 h_4 => ?_)
  subst h_4
  refine lv_lstore (lv' := [(4, .long (m_side v w.2.2.1 w.2.2.2)), (2, .long (m_side v w.1 w.2.1)), (0, .ref q), (1, .ref q2)]) hx hb d_Wall_clashesWith_25 hl (by decide) rfl (fun ls hl => ?_)
  refine lv_lload_n hx hb d_Wall_clashesWith_27 rfl (lv_at hl 1 rfl) ?_
  refine lv_lconst (v := 0) hx hb d_Wall_clashesWith_28 (by decide) ?_
  refine rf_lcmp_ne (tgt := 46) hx hb d_Wall_clashesWith_29 d_Wall_clashesWith_30 (by decide) (fun c_5 => ?_) (fun c_5 => ?_)
  · refine lv_aload_n hx hb d_Wall_clashesWith_46 rfl (lv_at hl 2 rfl) ?_
    refine lv_aload_n hx hb d_Wall_clashesWith_47 rfl (lv_at hl 3 rfl) ?_
    refine vp_callSi (va_Run.run (rf_runV (As := [.ref q2]) (rest := []) S0 ml_Wall_49 (c_Wall_shares l D tys q q2 v w) hE (va_recv hK hP (ci := 0) (q0 := 0) rfl rfl) (va_P.app (hP.sub [0] rfl) (hP.sub [1] rfl)) ⟨rfl, rfl, Nat.le_of_ble_eq_true rfl, Nat.le_of_ble_eq_true rfl⟩ rfl hl.1 rfl (Nat.le_of_ble_eq_true rfl) d_Wall_clashesWith_48 ⟨Nat.zero_le _, Nat.zero_le _⟩)) (fun r_6 h_7 => ?_)
    refine lv_if_ne (tgt := 97) hx hb d_Wall_clashesWith_51 (by decide) (fun c_8 => ?_) (fun c_8 => ?_)
    · refine lv_iconst (v := 0) hx hb d_Wall_clashesWith_97 (by decide) ?_
      exact W.zret (v := 0) (ty := .boolean) hx hb hr rfl (fun t ht hW => ⟨_, rfl, (rf_F (fun h => h.elim (fun h => (fun h => c_5 h.1) h.1) (fun h => (fun h => h (h_7.t c_8)) h.2.1))), ht⟩) (fun _ h => absurd h List.not_mem_nil) d_Wall_clashesWith_98
    · refine lv_lload_n hx hb d_Wall_clashesWith_54 rfl (lv_at hl 1 rfl) ?_
      refine lv_lload hx hb d_Wall_clashesWith_55 (lv_at hl 0 rfl) ?_
      refine lv_lmul hx hb d_Wall_clashesWith_57 ?_
      refine lv_lconst (v := 0) hx hb d_Wall_clashesWith_58 (by decide) ?_
      refine rf_lcmp_gt (tgt := 97) hx hb d_Wall_clashesWith_59 d_Wall_clashesWith_60 (by decide) (fun c_9 => ?_) (fun c_9 => ?_)
      · refine lv_iconst (v := 0) hx hb d_Wall_clashesWith_97 (by decide) ?_
        exact W.zret (v := 0) (ty := .boolean) hx hb hr rfl (fun t ht hW => ⟨_, rfl, (rf_F (fun h => h.elim (fun h => (fun h => c_5 h.1) h.1) (fun h => (Int64.not_le.mpr c_9) h.2.2.1))), ht⟩) (fun _ h => absurd h List.not_mem_nil) d_Wall_clashesWith_98
      · refine lv_aload_n hx hb d_Wall_clashesWith_63 rfl (lv_at hl 3 rfl) ?_
        refine lv_aload_n hx hb d_Wall_clashesWith_64 rfl (lv_at hl 2 rfl) ?_
        refine va_get (D := D) (ci := 0) (v := .int v.1) (C := "RayField$Wall") (T := F_Wall) (N := 4) hx hb hts in_Wall hown hK hP 0 rfl rfl 0 (by decide) (hts _ w_57) (fun _ h9 => h9) rfl d_Wall_clashesWith_65 ?_
        refine lv_aload_n hx hb d_Wall_clashesWith_68 rfl (lv_at hl 2 rfl) ?_
        refine va_get (D := D) (ci := 0) (v := .int v.2.1) (C := "RayField$Wall") (T := F_Wall) (N := 4) hx hb hts in_Wall hown hK hP 0 rfl rfl 1 (by decide) (hts _ w_60) (fun _ h9 => h9) rfl d_Wall_clashesWith_69 ?_
        refine vp_callSl (va_Run.run (rf_runV (As := [.int v.1, .int v.2.1]) (rest := []) S0 ml_Wall_28 (c_Wall_side l D tys q2 w v.1 v.2.1) hE (va_recv hK hP (ci := 0) (q0 := 1) rfl rfl) (hP.sub [1] rfl) ⟨rfl, rfl, Nat.le_of_ble_eq_true rfl, Nat.le_of_ble_eq_true rfl⟩ rfl hl.1 rfl (Nat.le_of_ble_eq_true rfl) d_Wall_clashesWith_72 ⟨Nat.zero_le _, Nat.zero_le _⟩)) (fun r_10 h_11 => ?_)
        subst h_11
        refine lv_aload_n hx hb d_Wall_clashesWith_75 rfl (lv_at hl 3 rfl) ?_
        refine lv_aload_n hx hb d_Wall_clashesWith_76 rfl (lv_at hl 2 rfl) ?_
        refine va_get (D := D) (ci := 0) (v := .int v.2.2.1) (C := "RayField$Wall") (T := F_Wall) (N := 4) hx hb hts in_Wall hown hK hP 0 rfl rfl 2 (by decide) (hts _ w_63) (fun _ h9 => h9) rfl d_Wall_clashesWith_77 ?_
        refine lv_aload_n hx hb d_Wall_clashesWith_80 rfl (lv_at hl 2 rfl) ?_
        refine va_get (D := D) (ci := 0) (v := .int v.2.2.2) (C := "RayField$Wall") (T := F_Wall) (N := 4) hx hb hts in_Wall hown hK hP 0 rfl rfl 3 (by decide) (hts _ w_66) (fun _ h9 => h9) rfl d_Wall_clashesWith_81 ?_
        refine vp_callSl (va_Run.run (rf_runV (As := [.int v.2.2.1, .int v.2.2.2]) (rest := [.long (m_side w v.1 v.2.1)]) S0 ml_Wall_28 (c_Wall_side l D tys q2 w v.2.2.1 v.2.2.2) hE (va_recv hK hP (ci := 0) (q0 := 1) rfl rfl) (hP.sub [1] rfl) ⟨rfl, rfl, Nat.le_of_ble_eq_true rfl, Nat.le_of_ble_eq_true rfl⟩ rfl hl.1 rfl (Nat.le_of_ble_eq_true rfl) d_Wall_clashesWith_84 ⟨Nat.zero_le _, Nat.zero_le _⟩)) (fun r_12 h_13 => ?_)
        subst h_13
        refine lv_lmul hx hb d_Wall_clashesWith_87 ?_
        refine lv_lconst (v := 0) hx hb d_Wall_clashesWith_88 (by decide) ?_
        refine rf_lcmp_gt (tgt := 97) hx hb d_Wall_clashesWith_89 d_Wall_clashesWith_90 (by decide) (fun c_14 => ?_) (fun c_14 => ?_)
        · refine lv_iconst (v := 0) hx hb d_Wall_clashesWith_97 (by decide) ?_
          exact W.zret (v := 0) (ty := .boolean) hx hb hr rfl (fun t ht hW => ⟨_, rfl, (rf_F (fun h => h.elim (fun h => (fun h => c_5 h.1) h.1) (fun h => (Int64.not_le.mpr c_14) h.2.2.2))), ht⟩) (fun _ h => absurd h List.not_mem_nil) d_Wall_clashesWith_98
        · refine lv_iconst (v := 1) hx hb d_Wall_clashesWith_93 (by decide) ?_
          refine lv_goto (tgt := 98) hx hb d_Wall_clashesWith_94 (by decide) ?_
          exact W.zret (v := 1) (ty := .boolean) hx hb hr rfl (fun t ht hW => ⟨_, rfl, (rf_T (Or.inr ⟨(fun h => c_5 h.1), (h_7.f c_8), (Int64.not_lt.mp c_9), (Int64.not_lt.mp c_14)⟩)), ht⟩) (fun _ h => absurd h List.not_mem_nil) d_Wall_clashesWith_98
  · refine lv_lload hx hb d_Wall_clashesWith_33 (lv_at hl 0 rfl) ?_
    refine lv_lconst (v := 0) hx hb d_Wall_clashesWith_35 (by decide) ?_
    refine rf_lcmp_ne (tgt := 46) hx hb d_Wall_clashesWith_36 d_Wall_clashesWith_37 (by decide) (fun c_15 => ?_) (fun c_15 => ?_)
    · refine lv_aload_n hx hb d_Wall_clashesWith_46 rfl (lv_at hl 2 rfl) ?_
      refine lv_aload_n hx hb d_Wall_clashesWith_47 rfl (lv_at hl 3 rfl) ?_
      refine vp_callSi (va_Run.run (rf_runV (As := [.ref q2]) (rest := []) S0 ml_Wall_49 (c_Wall_shares l D tys q q2 v w) hE (va_recv hK hP (ci := 0) (q0 := 0) rfl rfl) (va_P.app (hP.sub [0] rfl) (hP.sub [1] rfl)) ⟨rfl, rfl, Nat.le_of_ble_eq_true rfl, Nat.le_of_ble_eq_true rfl⟩ rfl hl.1 rfl (Nat.le_of_ble_eq_true rfl) d_Wall_clashesWith_48 ⟨Nat.zero_le _, Nat.zero_le _⟩)) (fun r_16 h_17 => ?_)
      refine lv_if_ne (tgt := 97) hx hb d_Wall_clashesWith_51 (by decide) (fun c_18 => ?_) (fun c_18 => ?_)
      · refine lv_iconst (v := 0) hx hb d_Wall_clashesWith_97 (by decide) ?_
        exact W.zret (v := 0) (ty := .boolean) hx hb hr rfl (fun t ht hW => ⟨_, rfl, (rf_F (fun h => h.elim (fun h => (fun h => c_15 h.2) h.1) (fun h => (fun h => h (h_17.t c_18)) h.2.1))), ht⟩) (fun _ h => absurd h List.not_mem_nil) d_Wall_clashesWith_98
      · refine lv_lload_n hx hb d_Wall_clashesWith_54 rfl (lv_at hl 1 rfl) ?_
        refine lv_lload hx hb d_Wall_clashesWith_55 (lv_at hl 0 rfl) ?_
        refine lv_lmul hx hb d_Wall_clashesWith_57 ?_
        refine lv_lconst (v := 0) hx hb d_Wall_clashesWith_58 (by decide) ?_
        refine rf_lcmp_gt (tgt := 97) hx hb d_Wall_clashesWith_59 d_Wall_clashesWith_60 (by decide) (fun c_19 => ?_) (fun c_19 => ?_)
        · refine lv_iconst (v := 0) hx hb d_Wall_clashesWith_97 (by decide) ?_
          exact W.zret (v := 0) (ty := .boolean) hx hb hr rfl (fun t ht hW => ⟨_, rfl, (rf_F (fun h => h.elim (fun h => (fun h => c_15 h.2) h.1) (fun h => (Int64.not_le.mpr c_19) h.2.2.1))), ht⟩) (fun _ h => absurd h List.not_mem_nil) d_Wall_clashesWith_98
        · refine lv_aload_n hx hb d_Wall_clashesWith_63 rfl (lv_at hl 3 rfl) ?_
          refine lv_aload_n hx hb d_Wall_clashesWith_64 rfl (lv_at hl 2 rfl) ?_
          refine va_get (D := D) (ci := 0) (v := .int v.1) (C := "RayField$Wall") (T := F_Wall) (N := 4) hx hb hts in_Wall hown hK hP 0 rfl rfl 0 (by decide) (hts _ w_57) (fun _ h9 => h9) rfl d_Wall_clashesWith_65 ?_
          refine lv_aload_n hx hb d_Wall_clashesWith_68 rfl (lv_at hl 2 rfl) ?_
          refine va_get (D := D) (ci := 0) (v := .int v.2.1) (C := "RayField$Wall") (T := F_Wall) (N := 4) hx hb hts in_Wall hown hK hP 0 rfl rfl 1 (by decide) (hts _ w_60) (fun _ h9 => h9) rfl d_Wall_clashesWith_69 ?_
          refine vp_callSl (va_Run.run (rf_runV (As := [.int v.1, .int v.2.1]) (rest := []) S0 ml_Wall_28 (c_Wall_side l D tys q2 w v.1 v.2.1) hE (va_recv hK hP (ci := 0) (q0 := 1) rfl rfl) (hP.sub [1] rfl) ⟨rfl, rfl, Nat.le_of_ble_eq_true rfl, Nat.le_of_ble_eq_true rfl⟩ rfl hl.1 rfl (Nat.le_of_ble_eq_true rfl) d_Wall_clashesWith_72 ⟨Nat.zero_le _, Nat.zero_le _⟩)) (fun r_20 h_21 => ?_)
          subst h_21
          refine lv_aload_n hx hb d_Wall_clashesWith_75 rfl (lv_at hl 3 rfl) ?_
          refine lv_aload_n hx hb d_Wall_clashesWith_76 rfl (lv_at hl 2 rfl) ?_
          refine va_get (D := D) (ci := 0) (v := .int v.2.2.1) (C := "RayField$Wall") (T := F_Wall) (N := 4) hx hb hts in_Wall hown hK hP 0 rfl rfl 2 (by decide) (hts _ w_63) (fun _ h9 => h9) rfl d_Wall_clashesWith_77 ?_
          refine lv_aload_n hx hb d_Wall_clashesWith_80 rfl (lv_at hl 2 rfl) ?_
          refine va_get (D := D) (ci := 0) (v := .int v.2.2.2) (C := "RayField$Wall") (T := F_Wall) (N := 4) hx hb hts in_Wall hown hK hP 0 rfl rfl 3 (by decide) (hts _ w_66) (fun _ h9 => h9) rfl d_Wall_clashesWith_81 ?_
          refine vp_callSl (va_Run.run (rf_runV (As := [.int v.2.2.1, .int v.2.2.2]) (rest := [.long (m_side w v.1 v.2.1)]) S0 ml_Wall_28 (c_Wall_side l D tys q2 w v.2.2.1 v.2.2.2) hE (va_recv hK hP (ci := 0) (q0 := 1) rfl rfl) (hP.sub [1] rfl) ⟨rfl, rfl, Nat.le_of_ble_eq_true rfl, Nat.le_of_ble_eq_true rfl⟩ rfl hl.1 rfl (Nat.le_of_ble_eq_true rfl) d_Wall_clashesWith_84 ⟨Nat.zero_le _, Nat.zero_le _⟩)) (fun r_22 h_23 => ?_)
          subst h_23
          refine lv_lmul hx hb d_Wall_clashesWith_87 ?_
          refine lv_lconst (v := 0) hx hb d_Wall_clashesWith_88 (by decide) ?_
          refine rf_lcmp_gt (tgt := 97) hx hb d_Wall_clashesWith_89 d_Wall_clashesWith_90 (by decide) (fun c_24 => ?_) (fun c_24 => ?_)
          · refine lv_iconst (v := 0) hx hb d_Wall_clashesWith_97 (by decide) ?_
            exact W.zret (v := 0) (ty := .boolean) hx hb hr rfl (fun t ht hW => ⟨_, rfl, (rf_F (fun h => h.elim (fun h => (fun h => c_15 h.2) h.1) (fun h => (Int64.not_le.mpr c_24) h.2.2.2))), ht⟩) (fun _ h => absurd h List.not_mem_nil) d_Wall_clashesWith_98
          · refine lv_iconst (v := 1) hx hb d_Wall_clashesWith_93 (by decide) ?_
            refine lv_goto (tgt := 98) hx hb d_Wall_clashesWith_94 (by decide) ?_
            exact W.zret (v := 1) (ty := .boolean) hx hb hr rfl (fun t ht hW => ⟨_, rfl, (rf_T (Or.inr ⟨(fun h => c_15 h.2), (h_17.f c_18), (Int64.not_lt.mp c_19), (Int64.not_lt.mp c_24)⟩)), ht⟩) (fun _ h => absurd h List.not_mem_nil) d_Wall_clashesWith_98
    · refine lv_aload_n hx hb d_Wall_clashesWith_40 rfl (lv_at hl 2 rfl) ?_
      refine lv_aload_n hx hb d_Wall_clashesWith_41 rfl (lv_at hl 3 rfl) ?_
      refine vp_callSi (va_Run.run (rf_runV (As := [.ref q2]) (rest := []) S0 ml_Wall_45 (c_Wall_overlaps l D tys q q2 v w) hE (va_recv hK hP (ci := 0) (q0 := 0) rfl rfl) (va_P.app (hP.sub [0] rfl) (hP.sub [1] rfl)) ⟨rfl, rfl, Nat.le_of_ble_eq_true rfl, Nat.le_of_ble_eq_true rfl⟩ rfl hl.1 rfl (Nat.le_of_ble_eq_true rfl) d_Wall_clashesWith_42 ⟨Nat.zero_le _, Nat.zero_le _⟩)) (fun r_25 h_26 => ?_)
      exact W.zret (v := r_25) (ty := .boolean) hx hb hr h_26.nar (fun t ht hW => ⟨_, rfl, (h_26.to ⟨fun h => Or.inl ⟨⟨c_5, c_15⟩, h⟩, fun h => h.elim (fun h => h.2) (fun h => absurd ⟨c_5, c_15⟩ h.1)⟩), ht⟩) (fun _ h => absurd h List.not_mem_nil) d_Wall_clashesWith_45
