set_option maxHeartbeats 4000000 in
set_option maxRecDepth 100000 in
/-- cross -/
theorem c_RF_cross (l : Launch) (D : va_G) (tys : List (ClassId × FieldType)) (px py qx qy : Int64) : Met l y_RF_cross (.code y_RF_cross b_RF_cross 8 (some (.long)) :: BIG) { frames := 0, cells := 0, slots := 0, locals := 0 } (rf_Pc D tys [.long px, .long py, .long qx, .long qy] (fun _ => True)) (vp_Sl (fun r => r = m_cross px py qx qy)) 0 0 (fun _ => False) := by
  refine Met.ofW (cc := b_RF_cross) (maxL := 8) (ret := (some (.long))) (by decide) rfl ?_
  intro p e s m args below meth c s₁ B hml hv
  obtain ⟨rfl, hE, hP⟩ := hv
  have hx := B.exec
  have hb := B.bytes
  have hr := B.returns
  have hts : ∀ w ∈ BIG, w.before [.long px, .long py, .long qx, .long qy].toArray s = true := fun w h => atoms_spec (ws := .code y_RF_cross b_RF_cross 8 (some (.long)) :: BIG) B.pre w (List.mem_cons_of_mem _ h)
  have hown : s.vm.findClass "RayField" = some m.cls := findClass_of_methodNamed B.named
  have hlocks := B.notSynchronized
  have hK := hE.2
  have S0 : CallFix p m c b_RF_cross 8 s [.long px, .long py, .long qx, .long qy].toArray BIG "RayField" := ⟨hx, hb, hml, hown, hts⟩
  have hl := lv_entry ([.long px, .long py, .long qx, .long qy]) (n := 8) (Nat.le_of_ble_eq_true rfl)
  rw [lg_entry_eq]
  generalize (lg_sl ([.long px, .long py, .long qx, .long qy]) ++ List.replicate (8 - (lg_sl ([.long px, .long py, .long qx, .long qy])).length) Slot.unset).toArray = ls at hl ⊢
  have hl : lv_has ls 8 [(0, .long px), (2, .long py), (4, .long qx), (6, .long qy)] := hl
  refine lv_lload_n hx hb d_RF_cross_0 rfl (lv_at hl 0 rfl) ?_
  refine lv_lload hx hb d_RF_cross_1 (lv_at hl 3 rfl) ?_
  refine lv_lmul hx hb d_RF_cross_3 ?_
  refine lv_lload_n hx hb d_RF_cross_4 rfl (lv_at hl 1 rfl) ?_
  refine lv_lload hx hb d_RF_cross_5 (lv_at hl 2 rfl) ?_
  refine lv_lmul hx hb d_RF_cross_7 ?_
  refine lv_lsub hx hb d_RF_cross_8 ?_
  exact W.lret (v := (px * qy) - (py * qx)) hx hb hr (fun t ht hW => ⟨_, rfl, rfl, ht⟩) (fun _ h => absurd h List.not_mem_nil) d_RF_cross_9
set_option maxHeartbeats 4000000 in
set_option maxRecDepth 100000 in
theorem c_RF_isBetween (l : Launch) (D : va_G) (tys : List (ClassId × FieldType)) (v lo hi : Int32) : Met l y_RF_isBetween (.code y_RF_isBetween b_RF_isBetween 3 (some (.boolean)) :: BIG) { frames := 0, cells := 0, slots := 0, locals := 0 } (rf_Pc D tys [.int v, .int lo, .int hi] (fun _ => True)) (vp_Si (fun r => rf_tf r (m_btw v lo hi))) 0 0 (fun _ => False) := by
  refine Met.ofW (cc := b_RF_isBetween) (maxL := 3) (ret := (some (.boolean))) (by decide) rfl ?_
  intro p e s m args below meth c s₁ B hml hv
  obtain ⟨rfl, hE, hP⟩ := hv
  have hx := B.exec
  have hb := B.bytes
  have hr := B.returns
  have hts : ∀ w ∈ BIG, w.before [.int v, .int lo, .int hi].toArray s = true := fun w h => atoms_spec (ws := .code y_RF_isBetween b_RF_isBetween 3 (some (.boolean)) :: BIG) B.pre w (List.mem_cons_of_mem _ h)
  have hown : s.vm.findClass "RayField" = some m.cls := findClass_of_methodNamed B.named
  have hlocks := B.notSynchronized
  have hK := hE.2
  have S0 : CallFix p m c b_RF_isBetween 3 s [.int v, .int lo, .int hi].toArray BIG "RayField" := ⟨hx, hb, hml, hown, hts⟩
  have hl := lv_entry ([.int v, .int lo, .int hi]) (n := 3) (Nat.le_of_ble_eq_true rfl)
  rw [lg_entry_eq]
  generalize (lg_sl ([.int v, .int lo, .int hi]) ++ List.replicate (3 - (lg_sl ([.int v, .int lo, .int hi])).length) Slot.unset).toArray = ls at hl ⊢
  have hl : lv_has ls 3 [(0, .int v), (1, .int lo), (2, .int hi)] := hl
  refine lv_iload_n hx hb d_RF_isBetween_0 rfl (lv_at hl 0 rfl) ?_
  refine lv_iload_n hx hb d_RF_isBetween_1 rfl (lv_at hl 1 rfl) ?_
  refine lv_icmp_lt (tgt := 14) hx hb d_RF_isBetween_2 (by decide) (fun c_1 => ?_) (fun c_1 => ?_)
  · refine lv_iconst (v := 0) hx hb d_RF_isBetween_14 (by decide) ?_
    exact W.zret (v := 0) (ty := .boolean) hx hb hr rfl (fun t ht hW => ⟨_, rfl, (rf_F (fun h => (Int32.not_le.mpr c_1) h.1)), ht⟩) (fun _ h => absurd h List.not_mem_nil) d_RF_isBetween_15
  · refine lv_iload_n hx hb d_RF_isBetween_5 rfl (lv_at hl 0 rfl) ?_
    refine lv_iload_n hx hb d_RF_isBetween_6 rfl (lv_at hl 2 rfl) ?_
    refine lv_icmp_gt (tgt := 14) hx hb d_RF_isBetween_7 (by decide) (fun c_2 => ?_) (fun c_2 => ?_)
    · refine lv_iconst (v := 0) hx hb d_RF_isBetween_14 (by decide) ?_
      exact W.zret (v := 0) (ty := .boolean) hx hb hr rfl (fun t ht hW => ⟨_, rfl, (rf_F (fun h => (Int32.not_le.mpr c_2) h.2)), ht⟩) (fun _ h => absurd h List.not_mem_nil) d_RF_isBetween_15
    · refine lv_iconst (v := 1) hx hb d_RF_isBetween_10 (by decide) ?_
      refine lv_goto (tgt := 15) hx hb d_RF_isBetween_11 (by decide) ?_
      exact W.zret (v := 1) (ty := .boolean) hx hb hr rfl (fun t ht hW => ⟨_, rfl, (rf_T ⟨(Int32.not_lt.mp c_1), (Int32.not_lt.mp c_2)⟩), ht⟩) (fun _ h => absurd h List.not_mem_nil) d_RF_isBetween_15
set_option maxHeartbeats 4000000 in
set_option maxRecDepth 100000 in
theorem c_RF_isNumber (l : Launch) (D : va_G) (tys : List (ClassId × FieldType)) (v : Int32) : Met l y_RF_isNumber (.code y_RF_isNumber b_RF_isNumber 1 (some (.boolean)) :: BIG) { frames := 1, cells := 0, slots := 0, locals := 40 } (rf_Pc D tys [.int v] (fun _ => True)) (vp_Si (fun r => rf_tf r (m_btw v 0 63))) 0 0 (fun _ => False) := by
  refine Met.ofW (cc := b_RF_isNumber) (maxL := 1) (ret := (some (.boolean))) (by decide) rfl ?_
  intro p e s m args below meth c s₁ B hml hv
  obtain ⟨rfl, hE, hP⟩ := hv
  have hx := B.exec
  have hb := B.bytes
  have hr := B.returns
  have hts : ∀ w ∈ BIG, w.before [.int v].toArray s = true := fun w h => atoms_spec (ws := .code y_RF_isNumber b_RF_isNumber 1 (some (.boolean)) :: BIG) B.pre w (List.mem_cons_of_mem _ h)
  have hown : s.vm.findClass "RayField" = some m.cls := findClass_of_methodNamed B.named
  have hlocks := B.notSynchronized
  have hK := hE.2
  have S0 : CallFix p m c b_RF_isNumber 1 s [.int v].toArray BIG "RayField" := ⟨hx, hb, hml, hown, hts⟩
  have hl := lv_entry ([.int v]) (n := 1) (Nat.le_of_ble_eq_true rfl)
  rw [lg_entry_eq]
  generalize (lg_sl ([.int v]) ++ List.replicate (1 - (lg_sl ([.int v])).length) Slot.unset).toArray = ls at hl ⊢
  have hl : lv_has ls 1 [(0, .int v)] := hl
  refine lv_iload_n hx hb d_RF_isNumber_0 rfl (lv_at hl 0 rfl) ?_
  refine lv_iconst (v := 0) hx hb d_RF_isNumber_1 (by decide) ?_
  refine lv_bipush (v := 63) hx hb d_RF_isNumber_2 (by decide) ?_
  refine vp_callSi (va_Run.run (rf_runS (As := [.int v, .int 0, .int 63]) (rest := []) S0 ml_RF_76 (c_RF_isBetween l D tys v 0 63) hE trivial ⟨rfl, rfl, Nat.le_of_ble_eq_true rfl, Nat.le_of_ble_eq_true rfl⟩ rfl hl.1 rfl (Nat.le_of_ble_eq_true rfl) d_RF_isNumber_4 ⟨Nat.zero_le _, Nat.zero_le _⟩)) (fun r_1 h_2 => ?_)
  exact W.zret (v := r_1) (ty := .boolean) hx hb hr h_2.nar (fun t ht hW => ⟨_, rfl, h_2, ht⟩) (fun _ h => absurd h List.not_mem_nil) d_RF_isNumber_7
set_option maxHeartbeats 4000000 in
set_option maxRecDepth 100000 in
theorem c_RF_isPlace (l : Launch) (D : va_G) (tys : List (ClassId × FieldType)) (x y re : Int32) : Met l y_RF_isPlace (.code y_RF_isPlace b_RF_isPlace 3 (some (.boolean)) :: BIG) { frames := 1, cells := 0, slots := 0, locals := 40 } (rf_Pc D tys [.int x, .int y, .int re] (fun _ => True)) (vp_Si (fun r => rf_tf r (m_place x y re))) 0 0 (fun _ => False) := by
  refine Met.ofW (cc := b_RF_isPlace) (maxL := 3) (ret := (some (.boolean))) (by decide) rfl ?_
  intro p e s m args below meth c s₁ B hml hv
  obtain ⟨rfl, hE, hP⟩ := hv
  have hx := B.exec
  have hb := B.bytes
  have hr := B.returns
  have hts : ∀ w ∈ BIG, w.before [.int x, .int y, .int re].toArray s = true := fun w h => atoms_spec (ws := .code y_RF_isPlace b_RF_isPlace 3 (some (.boolean)) :: BIG) B.pre w (List.mem_cons_of_mem _ h)
  have hown : s.vm.findClass "RayField" = some m.cls := findClass_of_methodNamed B.named
  have hlocks := B.notSynchronized
  have hK := hE.2
  have S0 : CallFix p m c b_RF_isPlace 3 s [.int x, .int y, .int re].toArray BIG "RayField" := ⟨hx, hb, hml, hown, hts⟩
  have hl := lv_entry ([.int x, .int y, .int re]) (n := 3) (Nat.le_of_ble_eq_true rfl)
  rw [lg_entry_eq]
  generalize (lg_sl ([.int x, .int y, .int re]) ++ List.replicate (3 - (lg_sl ([.int x, .int y, .int re])).length) Slot.unset).toArray = ls at hl ⊢
  have hl : lv_has ls 3 [(0, .int x), (1, .int y), (2, .int re)] := hl
  refine lv_iload_n hx hb d_RF_isPlace_0 rfl (lv_at hl 0 rfl) ?_
  refine lv_iload_n hx hb d_RF_isPlace_1 rfl (lv_at hl 2 rfl) ?_
  refine lv_ineg hx hb d_RF_isPlace_2 ?_
  refine lv_iload_n hx hb d_RF_isPlace_3 rfl (lv_at hl 2 rfl) ?_
  refine vp_callSi (va_Run.run (rf_runS (As := [.int x, .int (-re), .int re]) (rest := []) S0 ml_RF_76 (c_RF_isBetween l D tys x (-re) re) hE trivial ⟨rfl, rfl, Nat.le_of_ble_eq_true rfl, Nat.le_of_ble_eq_true rfl⟩ rfl hl.1 rfl (Nat.le_of_ble_eq_true rfl) d_RF_isPlace_4 ⟨Nat.zero_le _, Nat.zero_le _⟩)) (fun r_1 h_2 => ?_)
  refine lv_if_eq (tgt := 24) hx hb d_RF_isPlace_7 (by decide) (fun c_3 => ?_) (fun c_3 => ?_)
  · refine lv_iconst (v := 0) hx hb d_RF_isPlace_24 (by decide) ?_
    exact W.zret (v := 0) (ty := .boolean) hx hb hr rfl (fun t ht hW => ⟨_, rfl, (rf_F (fun h => (h_2.f c_3) h.1)), ht⟩) (fun _ h => absurd h List.not_mem_nil) d_RF_isPlace_25
  · refine lv_iload_n hx hb d_RF_isPlace_10 rfl (lv_at hl 1 rfl) ?_
    refine lv_iload_n hx hb d_RF_isPlace_11 rfl (lv_at hl 2 rfl) ?_
    refine lv_ineg hx hb d_RF_isPlace_12 ?_
    refine lv_iload_n hx hb d_RF_isPlace_13 rfl (lv_at hl 2 rfl) ?_
    refine vp_callSi (va_Run.run (rf_runS (As := [.int y, .int (-re), .int re]) (rest := []) S0 ml_RF_76 (c_RF_isBetween l D tys y (-re) re) hE trivial ⟨rfl, rfl, Nat.le_of_ble_eq_true rfl, Nat.le_of_ble_eq_true rfl⟩ rfl hl.1 rfl (Nat.le_of_ble_eq_true rfl) d_RF_isPlace_14 ⟨Nat.zero_le _, Nat.zero_le _⟩)) (fun r_4 h_5 => ?_)
    refine lv_if_eq (tgt := 24) hx hb d_RF_isPlace_17 (by decide) (fun c_6 => ?_) (fun c_6 => ?_)
    · refine lv_iconst (v := 0) hx hb d_RF_isPlace_24 (by decide) ?_
      exact W.zret (v := 0) (ty := .boolean) hx hb hr rfl (fun t ht hW => ⟨_, rfl, (rf_F (fun h => (h_5.f c_6) h.2)), ht⟩) (fun _ h => absurd h List.not_mem_nil) d_RF_isPlace_25
    · refine lv_iconst (v := 1) hx hb d_RF_isPlace_20 (by decide) ?_
      refine lv_goto (tgt := 25) hx hb d_RF_isPlace_21 (by decide) ?_
      exact W.zret (v := 1) (ty := .boolean) hx hb hr rfl (fun t ht hW => ⟨_, rfl, (rf_T ⟨(h_2.t c_3), (h_5.t c_6)⟩), ht⟩) (fun _ h => absurd h List.not_mem_nil) d_RF_isPlace_25
set_option maxHeartbeats 4000000 in
set_option maxRecDepth 100000 in
theorem c_floorDiv (l : Launch) (D : va_G) (tys : List (ClassId × FieldType)) (x y : Int64) (hy : ¬ y = 0) : Met l y_Math_floorDiv (.code y_Math_floorDiv b_Math_floorDiv 6 (some (.long)) :: BIG) { frames := 0, cells := 0, slots := 0, locals := 0 } (rf_Pc D tys [.long x, .long y] (fun _ => True)) (vp_Sl (fun r => r = m_fdiv x y)) 0 0 (fun _ => False) := by
  refine rf_ofWF (cc := b_Math_floorDiv) (maxL := 6) (ret := (some (.long))) (by decide +kernel) rfl ?_
  intro p e s m args below meth c s₁ B hml hv
  obtain ⟨rfl, hE, hP⟩ := hv
  have hx := B.exec
  have hb := B.bytes
  have hr := B.returns
  have hts : ∀ w ∈ BIG, w.before [.long x, .long y].toArray s = true := fun w h => atoms_spec (ws := .code y_Math_floorDiv b_Math_floorDiv 6 (some (.long)) :: BIG) B.pre w (List.mem_cons_of_mem _ h)
  have hown : s.vm.findClass "java/lang/Math" = some m.cls := findClass_of_methodNamed B.named
  have hlocks := B.notSynchronized
  have hK := hE.2
  have S0 : CallFix p m c b_Math_floorDiv 6 s [.long x, .long y].toArray BIG "java/lang/Math" := ⟨hx, hb, hml, hown, hts⟩
  have hl := lv_entry ([.long x, .long y]) (n := 6) (Nat.le_of_ble_eq_true rfl)
  rw [lg_entry_eq]
  generalize (lg_sl ([.long x, .long y]) ++ List.replicate (6 - (lg_sl ([.long x, .long y])).length) Slot.unset).toArray = ls at hl ⊢
  have hl : lv_has ls 6 [(0, .long x), (2, .long y)] := hl
  refine lv_lload_n hx hb d_Math_floorDiv_0 rfl (lv_at hl 0 rfl) ?_
  refine lv_lload_n hx hb d_Math_floorDiv_1 rfl (lv_at hl 1 rfl) ?_
  refine lv_ldiv hx hb d_Math_floorDiv_2 hy ?_
  refine lv_lstore (lv' := [(4, .long (x / y)), (0, .long x), (2, .long y)]) hx hb d_Math_floorDiv_3 hl (by decide) rfl (fun ls hl => ?_)
  refine lv_lload_n hx hb d_Math_floorDiv_5 rfl (lv_at hl 1 rfl) ?_
  refine lv_lload_n hx hb d_Math_floorDiv_6 rfl (lv_at hl 2 rfl) ?_
  refine lv_lxor hx hb d_Math_floorDiv_7 ?_
  refine lv_lconst (v := 0) hx hb d_Math_floorDiv_8 (by decide) ?_
  refine rf_lcmp_ge (tgt := 27) hx hb d_Math_floorDiv_9 d_Math_floorDiv_10 (by decide) (fun c_1 => ?_) (fun c_1 => ?_)
  · refine lv_lload hx hb d_Math_floorDiv_27 (lv_at hl 0 rfl) ?_
    exact W.lret (v := x / y) hx hb hr (fun t ht hW => ⟨_, rfl, (if_neg (fun h => (Int64.not_lt.mpr c_1) h.1)).symm, ht⟩) (fun _ h => absurd h List.not_mem_nil) d_Math_floorDiv_29
  · refine lv_lload hx hb d_Math_floorDiv_13 (lv_at hl 0 rfl) ?_
    refine lv_lload_n hx hb d_Math_floorDiv_15 rfl (lv_at hl 2 rfl) ?_
    refine lv_lmul hx hb d_Math_floorDiv_16 ?_
    refine lv_lload_n hx hb d_Math_floorDiv_17 rfl (lv_at hl 1 rfl) ?_
    refine rf_lcmp_eq (tgt := 27) hx hb d_Math_floorDiv_18 d_Math_floorDiv_19 (by decide) (fun c_2 => ?_) (fun c_2 => ?_)
    · refine lv_lload hx hb d_Math_floorDiv_27 (lv_at hl 0 rfl) ?_
      exact W.lret (v := x / y) hx hb hr (fun t ht hW => ⟨_, rfl, (if_neg (fun h => h.2 c_2)).symm, ht⟩) (fun _ h => absurd h List.not_mem_nil) d_Math_floorDiv_29
    · refine lv_lload hx hb d_Math_floorDiv_22 (lv_at hl 0 rfl) ?_
      refine lv_lconst (v := 1) hx hb d_Math_floorDiv_24 (by decide) ?_
      refine lv_lsub hx hb d_Math_floorDiv_25 ?_
      exact W.lret (v := (x / y) - 1) hx hb hr (fun t ht hW => ⟨_, rfl, (if_pos ⟨(Int64.not_le.mp c_1), c_2⟩).symm, ht⟩) (fun _ h => absurd h List.not_mem_nil) d_Math_floorDiv_26
