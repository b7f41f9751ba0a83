set_option maxHeartbeats 4000000 in
set_option maxRecDepth 100000 in
theorem c_Ray_side (l : Launch) (D : va_G) (tys : List (ClassId × FieldType)) (q : Nat) (w : Q4) (x y : Int32) : Met l y_Ray_side (.code y_Ray_side b_Ray_side 3 (some (.long)) :: BIG) { frames := 1, cells := 0, slots := 0, locals := 40 } (rf_Pc D tys [.ref q, .int x, .int y] (fun h => va_P D vwCl [(q, e_R w)] h)) (vp_Sl (fun r => r = m_rside w x y)) 0 0 (fun _ => False) := by
  refine Met.ofW (cc := b_Ray_side) (maxL := 3) (ret := (some (.long))) (by decide) rfl ?_
  intro p e s m args below meth c s₁ B hml hv
  obtain ⟨rfl, hE, hP⟩ := hv
  have hx := B.exec
  have hb := B.bytes
  have hr := B.returns
  have hts : ∀ w ∈ BIG, w.before [.ref q, .int x, .int y].toArray s = true := fun w h => atoms_spec (ws := .code y_Ray_side b_Ray_side 3 (some (.long)) :: BIG) B.pre w (List.mem_cons_of_mem _ h)
  have hown : s.vm.findClass "RayField$Ray" = some m.cls := findClass_of_methodNamed B.named
  have hlocks := B.notSynchronized
  have hK := hE.2
  have S0 : CallFix p m c b_Ray_side 3 s [.ref q, .int x, .int y].toArray BIG "RayField$Ray" := ⟨hx, hb, hml, hown, hts⟩
  have hl := lv_entry ([.ref q, .int x, .int y]) (n := 3) (Nat.le_of_ble_eq_true rfl)
  rw [lg_entry_eq]
  generalize (lg_sl ([.ref q, .int x, .int y]) ++ List.replicate (3 - (lg_sl ([.ref q, .int x, .int y])).length) Slot.unset).toArray = ls at hl ⊢
  have hl : lv_has ls 3 [(0, .ref q), (1, .int x), (2, .int y)] := hl
  have hP : va_P D vwCl [(q, e_R w)] s.heap := hP
  refine lv_aload_n hx hb d_Ray_side_0 rfl (lv_at hl 0 rfl) ?_
  refine va_get (D := D) (ci := 1) (v := .int w.2.2.1) (C := "RayField$Ray") (T := F_Ray) (N := 4) hx hb hts in_Ray hown hK hP 0 rfl rfl 2 (by decide) (hts _ w_202) (fun _ h9 => h9) rfl d_Ray_side_1 ?_
  refine lv_i2l hx hb d_Ray_side_4 rfl ?_
  refine lv_aload_n hx hb d_Ray_side_5 rfl (lv_at hl 0 rfl) ?_
  refine va_get (D := D) (ci := 1) (v := .int w.2.2.2) (C := "RayField$Ray") (T := F_Ray) (N := 4) hx hb hts in_Ray hown hK hP 0 rfl rfl 3 (by decide) (hts _ w_203) (fun _ h9 => h9) rfl d_Ray_side_6 ?_
  refine lv_i2l hx hb d_Ray_side_9 rfl ?_
  refine lv_iload_n hx hb d_Ray_side_10 rfl (lv_at hl 1 rfl) ?_
  refine lv_aload_n hx hb d_Ray_side_11 rfl (lv_at hl 0 rfl) ?_
  refine va_get (D := D) (ci := 1) (v := .int w.1) (C := "RayField$Ray") (T := F_Ray) (N := 4) hx hb hts in_Ray hown hK hP 0 rfl rfl 0 (by decide) (hts _ w_198) (fun _ h9 => h9) rfl d_Ray_side_12 ?_
  refine lv_isub hx hb d_Ray_side_15 ?_
  refine lv_i2l hx hb d_Ray_side_16 rfl ?_
  refine lv_iload_n hx hb d_Ray_side_17 rfl (lv_at hl 2 rfl) ?_
  refine lv_aload_n hx hb d_Ray_side_18 rfl (lv_at hl 0 rfl) ?_
  refine va_get (D := D) (ci := 1) (v := .int w.2.1) (C := "RayField$Ray") (T := F_Ray) (N := 4) hx hb hts in_Ray hown hK hP 0 rfl rfl 1 (by decide) (hts _ w_200) (fun _ h9 => h9) rfl d_Ray_side_19 ?_
  refine lv_isub hx hb d_Ray_side_22 ?_
  refine lv_i2l hx hb d_Ray_side_23 rfl ?_
  refine vp_callSl (va_Run.run (rf_runSN (As := [.long w.2.2.1.toInt64, .long w.2.2.2.toInt64, .long ((x - w.1).toInt64), .long ((y - w.2.1).toInt64)]) (rest := []) S0 ml_Ray_22 (c_RF_cross l D tys w.2.2.1.toInt64 w.2.2.2.toInt64 ((x - w.1).toInt64) ((y - w.2.1).toInt64)) hE trivial ⟨rfl, rfl, Nat.le_of_ble_eq_true rfl, Nat.le_of_ble_eq_true rfl⟩ rfl hl.1 rfl (Nat.le_of_ble_eq_true rfl) d_Ray_side_24 ⟨Nat.zero_le _, Nat.zero_le _⟩)) (fun r_1 h_2 => ?_)
  subst h_2
  exact W.lret (v := m_cross w.2.2.1.toInt64 w.2.2.2.toInt64 ((x - w.1).toInt64) ((y - w.2.1).toInt64)) hx hb hr (fun t ht hW => ⟨_, rfl, rfl, ht⟩) (fun _ h => absurd h List.not_mem_nil) d_Ray_side_27
set_option maxHeartbeats 4000000 in
set_option maxRecDepth 100000 in
theorem c_Meeting_isNearer (l : Launch) (D : va_G) (tys : List (ClassId × FieldType)) (q q2 : Nat) (n1 f1 n2 f2 : Int32) (d1 a1 v1 d2 a2 v2 : Int64) : Met l y_Meeting_isNearerThan (.code y_Meeting_isNearerThan b_Meeting_isNearerThan 2 (some (.boolean)) :: BIG) { frames := 0, cells := 0, slots := 0, locals := 0 } (rf_Pc D tys [.ref q, .ref q2] (fun h => va_P D vwCl [(q, e_M n1 f1 d1 a1 v1), (q2, e_M n2 f2 d2 a2 v2)] h)) (vp_Si (fun r => rf_tf r (d1 * v2 < d2 * v1))) 0 0 (fun _ => False) := by
  refine Met.ofW (cc := b_Meeting_isNearerThan) (maxL := 2) (ret := (some (.boolean))) (by decide) rfl ?_
  intro p e s m args below meth c s₁ B hml hv
  obtain ⟨rfl, hE, hP⟩ := hv
  have hx := B.exec
  have hb := B.bytes
  have hr := B.returns
  have hts : ∀ w ∈ BIG, w.before [.ref q, .ref q2].toArray s = true := fun w h => atoms_spec (ws := .code y_Meeting_isNearerThan b_Meeting_isNearerThan 2 (some (.boolean)) :: BIG) B.pre w (List.mem_cons_of_mem _ h)
  have hown : s.vm.findClass "RayField$Meeting" = some m.cls := findClass_of_methodNamed B.named
  have hlocks := B.notSynchronized
  have hK := hE.2
  have S0 : CallFix p m c b_Meeting_isNearerThan 2 s [.ref q, .ref q2].toArray BIG "RayField$Meeting" := ⟨hx, hb, hml, hown, hts⟩
  have hl := lv_entry ([.ref q, .ref q2]) (n := 2) (Nat.le_of_ble_eq_true rfl)
  rw [lg_entry_eq]
  generalize (lg_sl ([.ref q, .ref q2]) ++ List.replicate (2 - (lg_sl ([.ref q, .ref q2])).length) Slot.unset).toArray = ls at hl ⊢
  have hl : lv_has ls 2 [(0, .ref q), (1, .ref q2)] := hl
  have hP : va_P D vwCl [(q, e_M n1 f1 d1 a1 v1), (q2, e_M n2 f2 d2 a2 v2)] s.heap := hP
  refine lv_aload_n hx hb d_Meeting_isNearerThan_0 rfl (lv_at hl 0 rfl) ?_
  refine va_get (D := D) (ci := 2) (v := .long d1) (C := "RayField$Meeting") (T := F_Meeting) (N := 5) hx hb hts in_Meeting hown hK hP 0 rfl rfl 2 (by decide) (hts _ w_131) (fun _ h9 => h9) rfl d_Meeting_isNearerThan_1 ?_
  refine lv_aload_n hx hb d_Meeting_isNearerThan_4 rfl (lv_at hl 1 rfl) ?_
  refine va_get (D := D) (ci := 2) (v := .long v2) (C := "RayField$Meeting") (T := F_Meeting) (N := 5) hx hb hts in_Meeting hown hK hP 1 rfl rfl 4 (by decide) (hts _ w_135) (fun _ h9 => h9) rfl d_Meeting_isNearerThan_5 ?_
  refine lv_lmul hx hb d_Meeting_isNearerThan_8 ?_
  refine lv_aload_n hx hb d_Meeting_isNearerThan_9 rfl (lv_at hl 1 rfl) ?_
  refine va_get (D := D) (ci := 2) (v := .long d2) (C := "RayField$Meeting") (T := F_Meeting) (N := 5) hx hb hts in_Meeting hown hK hP 1 rfl rfl 2 (by decide) (hts _ w_131) (fun _ h9 => h9) rfl d_Meeting_isNearerThan_10 ?_
  refine lv_aload_n hx hb d_Meeting_isNearerThan_13 rfl (lv_at hl 0 rfl) ?_
  refine va_get (D := D) (ci := 2) (v := .long v1) (C := "RayField$Meeting") (T := F_Meeting) (N := 5) hx hb hts in_Meeting hown hK hP 0 rfl rfl 4 (by decide) (hts _ w_135) (fun _ h9 => h9) rfl d_Meeting_isNearerThan_14 ?_
  refine lv_lmul hx hb d_Meeting_isNearerThan_17 ?_
  refine rf_lcmp_ge (tgt := 26) hx hb d_Meeting_isNearerThan_18 d_Meeting_isNearerThan_19 (by decide) (fun c_1 => ?_) (fun c_1 => ?_)
  · refine lv_iconst (v := 0) hx hb d_Meeting_isNearerThan_26 (by decide) ?_
    exact W.zret (v := 0) (ty := .boolean) hx hb hr rfl (fun t ht hW => ⟨_, rfl, (rf_F (Int64.not_lt.mpr c_1)), ht⟩) (fun _ h => absurd h List.not_mem_nil) d_Meeting_isNearerThan_27
  · refine lv_iconst (v := 1) hx hb d_Meeting_isNearerThan_22 (by decide) ?_
    refine lv_goto (tgt := 27) hx hb d_Meeting_isNearerThan_23 (by decide) ?_
    exact W.zret (v := 1) (ty := .boolean) hx hb hr rfl (fun t ht hW => ⟨_, rfl, (rf_T (Int64.not_le.mp c_1)), ht⟩) (fun _ h => absurd h List.not_mem_nil) d_Meeting_isNearerThan_27
set_option maxHeartbeats 4000000 in
set_option maxRecDepth 100000 in
theorem c_Meeting_isAtMost (l : Launch) (D : va_G) (tys : List (ClassId × FieldType)) (q : Nat) (n1 f1 : Int32) (d1 a1 v1 : Int64) (n d : Int64) : Met l y_Meeting_isAtMost (.code y_Meeting_isAtMost b_Meeting_isAtMost 5 (some (.boolean)) :: BIG) { frames := 0, cells := 0, slots := 0, locals := 0 } (rf_Pc D tys [.ref q, .long n, .long d] (fun h => va_P D vwCl [(q, e_M n1 f1 d1 a1 v1)] h)) (vp_Si (fun r => rf_tf r (d1 * d ≤ n * v1))) 0 0 (fun _ => False) := by
  refine Met.ofW (cc := b_Meeting_isAtMost) (maxL := 5) (ret := (some (.boolean))) (by decide) rfl ?_
  intro p e s m args below meth c s₁ B hml hv
  obtain ⟨rfl, hE, hP⟩ := hv
  have hx := B.exec
  have hb := B.bytes
  have hr := B.returns
  have hts : ∀ w ∈ BIG, w.before [.ref q, .long n, .long d].toArray s = true := fun w h => atoms_spec (ws := .code y_Meeting_isAtMost b_Meeting_isAtMost 5 (some (.boolean)) :: BIG) B.pre w (List.mem_cons_of_mem _ h)
  have hown : s.vm.findClass "RayField$Meeting" = some m.cls := findClass_of_methodNamed B.named
  have hlocks := B.notSynchronized
  have hK := hE.2
  have S0 : CallFix p m c b_Meeting_isAtMost 5 s [.ref q, .long n, .long d].toArray BIG "RayField$Meeting" := ⟨hx, hb, hml, hown, hts⟩
  have hl := lv_entry ([.ref q, .long n, .long d]) (n := 5) (Nat.le_of_ble_eq_true rfl)
  rw [lg_entry_eq]
  generalize (lg_sl ([.ref q, .long n, .long d]) ++ List.replicate (5 - (lg_sl ([.ref q, .long n, .long d])).length) Slot.unset).toArray = ls at hl ⊢
  have hl : lv_has ls 5 [(0, .ref q), (1, .long n), (3, .long d)] := hl
  have hP : va_P D vwCl [(q, e_M n1 f1 d1 a1 v1)] s.heap := hP
  refine lv_aload_n hx hb d_Meeting_isAtMost_0 rfl (lv_at hl 0 rfl) ?_
  refine va_get (D := D) (ci := 2) (v := .long d1) (C := "RayField$Meeting") (T := F_Meeting) (N := 5) hx hb hts in_Meeting hown hK hP 0 rfl rfl 2 (by decide) (hts _ w_131) (fun _ h9 => h9) rfl d_Meeting_isAtMost_1 ?_
  refine lv_lload_n hx hb d_Meeting_isAtMost_4 rfl (lv_at hl 2 rfl) ?_
  refine lv_lmul hx hb d_Meeting_isAtMost_5 ?_
  refine lv_lload_n hx hb d_Meeting_isAtMost_6 rfl (lv_at hl 1 rfl) ?_
  refine lv_aload_n hx hb d_Meeting_isAtMost_7 rfl (lv_at hl 0 rfl) ?_
  refine va_get (D := D) (ci := 2) (v := .long v1) (C := "RayField$Meeting") (T := F_Meeting) (N := 5) hx hb hts in_Meeting hown hK hP 0 rfl rfl 4 (by decide) (hts _ w_135) (fun _ h9 => h9) rfl d_Meeting_isAtMost_8 ?_
  refine lv_lmul hx hb d_Meeting_isAtMost_11 ?_
  refine rf_lcmp_gt (tgt := 20) hx hb d_Meeting_isAtMost_12 d_Meeting_isAtMost_13 (by decide) (fun c_1 => ?_) (fun c_1 => ?_)
  · refine lv_iconst (v := 0) hx hb d_Meeting_isAtMost_20 (by decide) ?_
    exact W.zret (v := 0) (ty := .boolean) hx hb hr rfl (fun t ht hW => ⟨_, rfl, (rf_F (Int64.not_le.mpr c_1)), ht⟩) (fun _ h => absurd h List.not_mem_nil) d_Meeting_isAtMost_21
  · refine lv_iconst (v := 1) hx hb d_Meeting_isAtMost_16 (by decide) ?_
    refine lv_goto (tgt := 21) hx hb d_Meeting_isAtMost_17 (by decide) ?_
    exact W.zret (v := 1) (ty := .boolean) hx hb hr rfl (fun t ht hW => ⟨_, rfl, (rf_T (Int64.not_lt.mp c_1)), ht⟩) (fun _ h => absurd h List.not_mem_nil) d_Meeting_isAtMost_21
set_option maxHeartbeats 4000000 in
set_option maxRecDepth 100000 in
theorem c_Meeting_roundedDown (l : Launch) (D : va_G) (tys : List (ClassId × FieldType)) (q : Nat) (n1 f1 : Int32) (d1 a1 v1 : Int64) (x : Int64) : Met l y_Meeting_roundedDown (.code y_Meeting_roundedDown b_Meeting_roundedDown 3 (some (.long)) :: BIG) { frames := 1, cells := 0, slots := 0, locals := 40 } (rf_Pc D tys [.ref q, .long x] (fun h => va_P D vwCl [(q, e_M n1 f1 d1 a1 v1)] h)) (vp_Sl (fun r => r = m_rd x v1)) 0 0 (fun _ => False) := by
  refine Met.ofW (cc := b_Meeting_roundedDown) (maxL := 3) (ret := (some (.long))) (by decide) rfl ?_
  intro p e s m args below meth c s₁ B hml hv
  obtain ⟨rfl, hE, hP⟩ := hv
  have hx := B.exec
  have hb := B.bytes
  have hr := B.returns
  have hts : ∀ w ∈ BIG, w.before [.ref q, .long x].toArray s = true := fun w h => atoms_spec (ws := .code y_Meeting_roundedDown b_Meeting_roundedDown 3 (some (.long)) :: BIG) B.pre w (List.mem_cons_of_mem _ h)
  have hown : s.vm.findClass "RayField$Meeting" = some m.cls := findClass_of_methodNamed B.named
  have hlocks := B.notSynchronized
  have hK := hE.2
  have S0 : CallFix p m c b_Meeting_roundedDown 3 s [.ref q, .long x].toArray BIG "RayField$Meeting" := ⟨hx, hb, hml, hown, hts⟩
  have hl := lv_entry ([.ref q, .long x]) (n := 3) (Nat.le_of_ble_eq_true rfl)
  rw [lg_entry_eq]
  generalize (lg_sl ([.ref q, .long x]) ++ List.replicate (3 - (lg_sl ([.ref q, .long x])).length) Slot.unset).toArray = ls at hl ⊢
  have hl : lv_has ls 3 [(0, .ref q), (1, .long x)] := hl
  have hP : va_P D vwCl [(q, e_M n1 f1 d1 a1 v1)] s.heap := hP
  refine lv_aload_n hx hb d_Meeting_roundedDown_0 rfl (lv_at hl 0 rfl) ?_
  refine va_get (D := D) (ci := 2) (v := .long v1) (C := "RayField$Meeting") (T := F_Meeting) (N := 5) hx hb hts in_Meeting hown hK hP 0 rfl rfl 4 (by decide) (hts _ w_135) (fun _ h9 => h9) rfl d_Meeting_roundedDown_1 ?_
  refine lv_lconst (v := 0) hx hb d_Meeting_roundedDown_4 (by decide) ?_
  refine rf_lcmp_le (tgt := 20) hx hb d_Meeting_roundedDown_5 d_Meeting_roundedDown_6 (by decide) (fun c_1 => ?_) (fun c_1 => ?_)
  · refine lv_ldc2 (v := (-1)) hx hb hown (hts _ w_242) d_Meeting_roundedDown_20 ?_
    exact W.lret (v := (-1)) hx hb hr (fun t ht hW => ⟨_, rfl, (by unfold m_rd; rw [if_neg (Int64.not_lt.mpr c_1)]), ht⟩) (fun _ h => absurd h List.not_mem_nil) d_Meeting_roundedDown_23
  · refine lv_lload_n hx hb d_Meeting_roundedDown_9 rfl (lv_at hl 1 rfl) ?_
    refine lv_aload_n hx hb d_Meeting_roundedDown_10 rfl (lv_at hl 0 rfl) ?_
    refine va_get (D := D) (ci := 2) (v := .long v1) (C := "RayField$Meeting") (T := F_Meeting) (N := 5) hx hb hts in_Meeting hown hK hP 0 rfl rfl 4 (by decide) (hts _ w_135) (fun _ h9 => h9) rfl d_Meeting_roundedDown_11 ?_
    refine vp_callSl (va_Run.run (rf_runS (As := [.long x, .long v1]) (rest := []) S0 ml_Meeting_62 (c_floorDiv l D tys x v1 (fun z => absurd (z ▸ (Int64.not_le.mp c_1)) (by decide))) hE trivial ⟨rfl, rfl, Nat.le_of_ble_eq_true rfl, Nat.le_of_ble_eq_true rfl⟩ rfl hl.1 rfl (Nat.le_of_ble_eq_true rfl) d_Meeting_roundedDown_14 ⟨Nat.zero_le _, Nat.zero_le _⟩)) (fun r_2 h_3 => ?_)
    subst h_3
    refine lv_goto (tgt := 23) hx hb d_Meeting_roundedDown_17 (by decide) ?_
    exact W.lret (v := m_fdiv x v1) hx hb hr (fun t ht hW => ⟨_, rfl, (by unfold m_rd; rw [if_pos (Int64.not_le.mp c_1)]), ht⟩) (fun _ h => absurd h List.not_mem_nil) d_Meeting_roundedDown_23
