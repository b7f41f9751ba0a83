set_option maxHeartbeats 4000000 in
set_option maxRecDepth 100000 in
theorem c_Md_cross (l : Launch) (D : va_G) (tys : List (ClassId × FieldType)) (px py qx qy : Int64) : Met l y_Md_cross (.code y_Md_cross b_Md_cross 8 (some (.long)) :: BIG) { frames := 0, cells := 0, slots := 0, locals := 0 } (rf_Pc D tys [.long px, .long py, .long qx, .long qy] (fun _ => True)) (vp_Sl (fun r => r = m_cross px py qx qy)) 0 0 (fun _ => False) := by
  refine Met.ofW (cc := b_Md_cross) (maxL := 8) (ret := (some (.long))) (by decide) rfl ?_
  intro p e s m args below meth c s₁ B hml hv
  obtain ⟨rfl, hE, hP⟩ := hv
  have hx := B.exec
  have hb := B.bytes
  have hr := B.returns
  have hts : ∀ w ∈ BIG, w.before [.long px, .long py, .long qx, .long qy].toArray s = true := fun w h => atoms_spec (ws := .code y_Md_cross b_Md_cross 8 (some (.long)) :: BIG) B.pre w (List.mem_cons_of_mem _ h)
  have hown : s.vm.findClass "RayFieldModel" = some m.cls := findClass_of_methodNamed B.named
  have hlocks := B.notSynchronized
  have hK := hE.2
  have S0 : CallFix p m c b_Md_cross 8 s [.long px, .long py, .long qx, .long qy].toArray BIG "RayFieldModel" := ⟨hx, hb, hml, hown, hts⟩
  have hl := lv_entry ([.long px, .long py, .long qx, .long qy]) (n := 8) (Nat.le_of_ble_eq_true rfl)
  rw [lg_entry_eq]
  generalize (lg_sl ([.long px, .long py, .long qx, .long qy]) ++ List.replicate (8 - (lg_sl ([.long px, .long py, .long qx, .long qy])).length) Slot.unset).toArray = ls at hl ⊢
  have hl : lv_has ls 8 [(0, .long px), (2, .long py), (4, .long qx), (6, .long qy)] := hl
  refine lv_lload_n hx hb d_Md_cross_0 rfl (lv_at hl 0 rfl) ?_
  refine lv_lload hx hb d_Md_cross_1 (lv_at hl 3 rfl) ?_
  refine lv_lmul hx hb d_Md_cross_3 ?_
  refine lv_lload_n hx hb d_Md_cross_4 rfl (lv_at hl 1 rfl) ?_
  refine lv_lload hx hb d_Md_cross_5 (lv_at hl 2 rfl) ?_
  refine lv_lmul hx hb d_Md_cross_7 ?_
  refine lv_lsub hx hb d_Md_cross_8 ?_
  exact W.lret (v := (px * qy) - (py * qx)) hx hb hr (fun t ht hW => ⟨_, rfl, rfl, ht⟩) (fun _ h => absurd h List.not_mem_nil) d_Md_cross_9
set_option maxHeartbeats 4000000 in
set_option maxRecDepth 100000 in
theorem c_Md_isIn (l : Launch) (D : va_G) (tys : List (ClassId × FieldType)) (v re : Int32) : Met l y_Md_isIn (.code y_Md_isIn b_Md_isIn 2 (some (.boolean)) :: BIG) { frames := 0, cells := 0, slots := 0, locals := 0 } (rf_Pc D tys [.int v, .int re] (fun _ => True)) (vp_Si (fun r => rf_tf r (m_btw v (-re) re))) 0 0 (fun _ => False) := by
  refine Met.ofW (cc := b_Md_isIn) (maxL := 2) (ret := (some (.boolean))) (by decide) rfl ?_
  intro p e s m args below meth c s₁ B hml hv
  obtain ⟨rfl, hE, hP⟩ := hv
  have hx := B.exec
  have hb := B.bytes
  have hr := B.returns
  have hts : ∀ w ∈ BIG, w.before [.int v, .int re].toArray s = true := fun w h => atoms_spec (ws := .code y_Md_isIn b_Md_isIn 2 (some (.boolean)) :: BIG) B.pre w (List.mem_cons_of_mem _ h)
  have hown : s.vm.findClass "RayFieldModel" = some m.cls := findClass_of_methodNamed B.named
  have hlocks := B.notSynchronized
  have hK := hE.2
  have S0 : CallFix p m c b_Md_isIn 2 s [.int v, .int re].toArray BIG "RayFieldModel" := ⟨hx, hb, hml, hown, hts⟩
  have hl := lv_entry ([.int v, .int re]) (n := 2) (Nat.le_of_ble_eq_true rfl)
  rw [lg_entry_eq]
  generalize (lg_sl ([.int v, .int re]) ++ List.replicate (2 - (lg_sl ([.int v, .int re])).length) Slot.unset).toArray = ls at hl ⊢
  have hl : lv_has ls 2 [(0, .int v), (1, .int re)] := hl
  refine lv_iload_n hx hb d_Md_isIn_0 rfl (lv_at hl 0 rfl) ?_
  refine lv_iload_n hx hb d_Md_isIn_1 rfl (lv_at hl 1 rfl) ?_
  refine lv_ineg hx hb d_Md_isIn_2 ?_
  refine lv_icmp_lt (tgt := 15) hx hb d_Md_isIn_3 (by decide) (fun c_1 => ?_) (fun c_1 => ?_)
  · refine lv_iconst (v := 0) hx hb d_Md_isIn_15 (by decide) ?_
    exact W.zret (v := 0) (ty := .boolean) hx hb hr rfl (fun t ht hW => ⟨_, rfl, (rf_F (fun h => (Int32.not_le.mpr c_1) h.1)), ht⟩) (fun _ h => absurd h List.not_mem_nil) d_Md_isIn_16
  · refine lv_iload_n hx hb d_Md_isIn_6 rfl (lv_at hl 0 rfl) ?_
    refine lv_iload_n hx hb d_Md_isIn_7 rfl (lv_at hl 1 rfl) ?_
    refine lv_icmp_gt (tgt := 15) hx hb d_Md_isIn_8 (by decide) (fun c_2 => ?_) (fun c_2 => ?_)
    · refine lv_iconst (v := 0) hx hb d_Md_isIn_15 (by decide) ?_
      exact W.zret (v := 0) (ty := .boolean) hx hb hr rfl (fun t ht hW => ⟨_, rfl, (rf_F (fun h => (Int32.not_le.mpr c_2) h.2)), ht⟩) (fun _ h => absurd h List.not_mem_nil) d_Md_isIn_16
    · refine lv_iconst (v := 1) hx hb d_Md_isIn_11 (by decide) ?_
      refine lv_goto (tgt := 16) hx hb d_Md_isIn_12 (by decide) ?_
      exact W.zret (v := 1) (ty := .boolean) hx hb hr rfl (fun t ht hW => ⟨_, rfl, (rf_T ⟨(Int32.not_lt.mp c_1), (Int32.not_lt.mp c_2)⟩), ht⟩) (fun _ h => absurd h List.not_mem_nil) d_Md_isIn_16
set_option maxHeartbeats 4000000 in
set_option maxRecDepth 100000 in
theorem c_Md_free (l : Launch) (D : va_G) (y t0 t1 t2 t3 t4 t5 : Nat) (c0 c1 c2 c3 c4 c5 : ClassId) (ma ha ex ey dx dy : Int32) (ab be : Int64) (ri : Int32) (o1 o2 : Int64) (f0 f1 f2 f3 f4 f5 : Nat → Int32) (wl : Nat → Option Q4) (hY : rf_YF wl f0 f1 f2 f3 f4) : Met l y_Md_free (.code y_Md_free b_Md_free 2 (some (.int)) :: BIG) { frames := 0, cells := 0, slots := 0, locals := 0 } (rf_Pc D (y_t c0 c1 c2 c3 c4 c5) [.ref y] (fun h => va_P D vwCl (y_7 y t0 t1 t2 t3 t4 t5 c0 c1 c2 c3 c4 c5 ma ha ex ey dx dy ab be ri o1 o2 f0 f1 f2 f3 f4 f5) h)) (vp_Si (fun r => rf_First (fun k => wl k = none) r)) 0 0 (fun _ => False) := by
  refine Met.ofW (cc := b_Md_free) (maxL := 2) (ret := (some (.int))) (by decide) rfl ?_
  intro p e s m args below meth c s₁ B hml hv
  obtain ⟨rfl, hE, hP⟩ := hv
  have hx := B.exec
  have hb := B.bytes
  have hr := B.returns
  have hts : ∀ w ∈ BIG, w.before [.ref y].toArray s = true := fun w h => atoms_spec (ws := .code y_Md_free b_Md_free 2 (some (.int)) :: BIG) B.pre w (List.mem_cons_of_mem _ h)
  have hown : s.vm.findClass "RayFieldModel" = some m.cls := findClass_of_methodNamed B.named
  have hlocks := B.notSynchronized
  have hK := hE.2
  have S0 : CallFix p m c b_Md_free 2 s [.ref y].toArray BIG "RayFieldModel" := ⟨hx, hb, hml, hown, hts⟩
  have hl := lv_entry ([.ref y]) (n := 2) (Nat.le_of_ble_eq_true rfl)
  rw [lg_entry_eq]
  generalize (lg_sl ([.ref y]) ++ List.replicate (2 - (lg_sl ([.ref y])).length) Slot.unset).toArray = ls at hl ⊢
  have hl : lv_has ls 2 [(0, .ref y)] := hl
  have hP : va_P D vwCl (y_7 y t0 t1 t2 t3 t4 t5 c0 c1 c2 c3 c4 c5 ma ha ex ey dx dy ab be ri o1 o2 f0 f1 f2 f3 f4 f5) s.heap := hP
  refine lv_iconst (v := 0) hx hb d_Md_free_0 (by decide) ?_
  refine rf_topi nI_0.symm ?_
  refine lv_istore_n (lv' := [(1, .int (nI 0)), (0, .ref y)]) hx hb d_Md_free_1 rfl hl (by decide) rfl (fun ls hl => ?_)
  refine rf_loopP 2 64 (fun i ls => lv_has ls 2 [(1, .int (nI i)), (0, .ref y)] ∧ (∀ j, j < i → ¬ wl j = none)) (fun ls hI => ?_) (fun i ls hi hI hk => ?_) 0 (Nat.zero_le _) ⟨lv_sub hl [0, 1] rfl, fun j hj => absurd hj (Nat.not_lt_zero _)⟩
  · obtain ⟨hl, hJ⟩ := hI
    refine lv_iload_n hx hb d_Md_free_2 rfl (lv_at hl 0 rfl) ?_
    refine lv_bipush (v := 64) hx hb d_Md_free_3 (by decide) ?_
    refine rf_topi rfl ?_
    refine lv_icmp_ge (tgt := 23) hx hb d_Md_free_5 (by decide) (fun c_1 => ?_) (fun c_1 => absurd (nI_le (Nat.le_refl _) (by decide)) c_1)
    refine lv_iload_n hx hb d_Md_free_23 rfl (lv_at hl 0 rfl) ?_
    refine lv_bipush (v := 64) hx hb d_Md_free_24 (by decide) ?_
    refine rf_topi rfl ?_
    refine lv_icmp_ge (tgt := 33) hx hb d_Md_free_26 (by decide) (fun c_2 => ?_) (fun c_2 => absurd (nI_le (Nat.le_refl _) (by decide)) c_2)
    refine lv_iconst (v := -1) hx hb d_Md_free_33 (by decide) ?_
    exact W.iret (v := (-1)) hx hb hr (fun t ht hW => ⟨_, rfl, (Or.inr ⟨rfl, hJ⟩), ht⟩) (fun _ h => absurd h List.not_mem_nil) d_Md_free_34
  · obtain ⟨hl, hJ⟩ := hI
    refine lv_iload_n hx hb d_Md_free_2 rfl (lv_at hl 0 rfl) ?_
    refine lv_bipush (v := 64) hx hb d_Md_free_3 (by decide) ?_
    refine rf_topi rfl ?_
    refine lv_icmp_ge (tgt := 23) hx hb d_Md_free_5 (by decide) (fun c_3 => absurd c_3 (nI_ge hi (by decide))) (fun c_3 => ?_)
    refine lv_aload_n hx hb d_Md_free_8 rfl (lv_at hl 1 rfl) ?_
    refine va_get (D := D) (ci := 4) (v := .ref t0) (C := "RayFieldModel") (T := F_Md) (N := 18) hx hb hts in_Md hown hK hP 0 rfl rfl 1 (by decide) (hts _ w_281) (fun _ h9 => h9) rfl d_Md_free_9 ?_
    refine lv_iload_n hx hb d_Md_free_12 rfl (lv_at hl 0 rfl) ?_
    refine rf_zald hx hb hK hP 1 0 rfl rfl hi (by decide) d_Md_free_13 ?_
    refine lv_if_eq (tgt := 23) hx hb d_Md_free_14 (by decide) (fun c_4 => ?_) (fun c_4 => ?_)
    · refine lv_iload_n hx hb d_Md_free_23 rfl (lv_at hl 0 rfl) ?_
      refine lv_bipush (v := 64) hx hb d_Md_free_24 (by decide) ?_
      refine rf_topi rfl ?_
      refine lv_icmp_ge (tgt := 33) hx hb d_Md_free_26 (by decide) (fun c_5 => absurd c_5 (nI_ge hi (by decide))) (fun c_5 => ?_)
      refine lv_iload_n hx hb d_Md_free_29 rfl (lv_at hl 0 rfl) ?_
      refine lv_goto (tgt := 34) hx hb d_Md_free_30 (by decide) ?_
      exact W.iret (v := nI i) hx hb hr (fun t ht hW => ⟨_, rfl, (Or.inl ⟨i, hi, rfl, hY.zero hi c_4, hJ⟩), ht⟩) (fun _ h => absurd h List.not_mem_nil) d_Md_free_34
    · refine lv_iinc (v := (nI (i + 1))) (lv' := [(1, .int (nI (i + 1))), (0, .ref y)]) hx hb d_Md_free_17 hl (k := 0) rfl (nI_1 i) (by decide) rfl (fun ls hl => ?_)
      refine lv_goto (tgt := 2) hx hb d_Md_free_20 (by decide) ?_
      exact hk _ ⟨lv_sub hl [0, 1] rfl, lt_s hJ (fun z => by rw [hY.one hi c_4] at z; cases z)⟩
set_option maxHeartbeats 4000000 in
set_option maxRecDepth 100000 in
theorem c_Md_isWall (l : Launch) (D : va_G) (y t0 t1 t2 t3 t4 t5 : Nat) (c0 c1 c2 c3 c4 c5 : ClassId) (ma ha ex ey dx dy : Int32) (ab be : Int64) (ri : Int32) (o1 o2 : Int64) (f0 f1 f2 f3 f4 f5 : Nat → Int32) (wl : Nat → Option Q4) (hY : rf_YF wl f0 f1 f2 f3 f4) (i : Int32) : Met l y_Md_isWall (.code y_Md_isWall b_Md_isWall 2 (some (.boolean)) :: BIG) { frames := 0, cells := 0, slots := 0, locals := 0 } (rf_Pc D (y_t c0 c1 c2 c3 c4 c5) [.ref y, .int i] (fun h => va_P D vwCl (y_7 y t0 t1 t2 t3 t4 t5 c0 c1 c2 c3 c4 c5 ma ha ex ey dx dy ab be ri o1 o2 f0 f1 f2 f3 f4 f5) h)) (vp_Si (fun r => rf_tf r (∃ k, k < 64 ∧ i = nI k ∧ ∃ v, wl k = some v))) 0 0 (fun _ => False) := by
  refine Met.ofW (cc := b_Md_isWall) (maxL := 2) (ret := (some (.boolean))) (by decide) rfl ?_
  intro p e s m args below meth c s₁ B hml hv
  obtain ⟨rfl, hE, hP⟩ := hv
  have hx := B.exec
  have hb := B.bytes
  have hr := B.returns
  have hts : ∀ w ∈ BIG, w.before [.ref y, .int i].toArray s = true := fun w h => atoms_spec (ws := .code y_Md_isWall b_Md_isWall 2 (some (.boolean)) :: BIG) B.pre w (List.mem_cons_of_mem _ h)
  have hown : s.vm.findClass "RayFieldModel" = some m.cls := findClass_of_methodNamed B.named
  have hlocks := B.notSynchronized
  have hK := hE.2
  have S0 : CallFix p m c b_Md_isWall 2 s [.ref y, .int i].toArray BIG "RayFieldModel" := ⟨hx, hb, hml, hown, hts⟩
  have hl := lv_entry ([.ref y, .int i]) (n := 2) (Nat.le_of_ble_eq_true rfl)
  rw [lg_entry_eq]
  generalize (lg_sl ([.ref y, .int i]) ++ List.replicate (2 - (lg_sl ([.ref y, .int i])).length) Slot.unset).toArray = ls at hl ⊢
  have hl : lv_has ls 2 [(0, .ref y), (1, .int i)] := hl
  have hP : va_P D vwCl (y_7 y t0 t1 t2 t3 t4 t5 c0 c1 c2 c3 c4 c5 ma ha ex ey dx dy ab be ri o1 o2 f0 f1 f2 f3 f4 f5) s.heap := hP
  refine lv_iload_n hx hb d_Md_isWall_0 rfl (lv_at hl 1 rfl) ?_
  refine lv_if_lt (tgt := 23) hx hb d_Md_isWall_1 (by decide) (fun c_1 => ?_) (fun c_1 => ?_)
  · refine lv_iconst (v := 0) hx hb d_Md_isWall_23 (by decide) ?_
    exact W.zret (v := 0) (ty := .boolean) hx hb hr rfl (fun t ht hW => ⟨_, rfl, (rf_F (fun ⟨k, hk, ek, _⟩ => rf_ix0 (n := 64) (by decide) (Or.inl c_1) k hk ek)), ht⟩) (fun _ h => absurd h List.not_mem_nil) d_Md_isWall_24
  · refine lv_iload_n hx hb d_Md_isWall_4 rfl (lv_at hl 1 rfl) ?_
    refine lv_bipush (v := 64) hx hb d_Md_isWall_5 (by decide) ?_
    refine rf_topi rfl ?_
    refine lv_icmp_ge (tgt := 23) hx hb d_Md_isWall_7 (by decide) (fun c_2 => ?_) (fun c_2 => ?_)
    · refine lv_iconst (v := 0) hx hb d_Md_isWall_23 (by decide) ?_
      exact W.zret (v := 0) (ty := .boolean) hx hb hr rfl (fun t ht hW => ⟨_, rfl, (rf_F (fun ⟨k, hk, ek, _⟩ => rf_ix0 (n := 64) (by decide) (Or.inr c_2) k hk ek)), ht⟩) (fun _ h => absurd h List.not_mem_nil) d_Md_isWall_24
    · obtain ⟨k, hk, ek⟩ := rf_ix (n := 64) (by decide) c_1 c_2
      subst ek
      refine lv_aload_n hx hb d_Md_isWall_10 rfl (lv_at hl 0 rfl) ?_
      refine va_get (D := D) (ci := 4) (v := .ref t0) (C := "RayFieldModel") (T := F_Md) (N := 18) hx hb hts in_Md hown hK hP 0 rfl rfl 1 (by decide) (hts _ w_281) (fun _ h9 => h9) rfl d_Md_isWall_11 ?_
      refine lv_iload_n hx hb d_Md_isWall_14 rfl (lv_at hl 1 rfl) ?_
      refine rf_zald hx hb hK hP 1 0 rfl rfl hk (by decide) d_Md_isWall_15 ?_
      refine lv_if_eq (tgt := 23) hx hb d_Md_isWall_16 (by decide) (fun c_3 => ?_) (fun c_3 => ?_)
      · refine lv_iconst (v := 0) hx hb d_Md_isWall_23 (by decide) ?_
        exact W.zret (v := 0) (ty := .boolean) hx hb hr rfl (fun t ht hW => ⟨_, rfl, (rf_F (fun ⟨k2, hk2, ek2, v2, h2⟩ => by have e := nI_inj (by omega) (by omega) ek2; subst e; rw [hY.zero hk c_3] at h2; cases h2)), ht⟩) (fun _ h => absurd h List.not_mem_nil) d_Md_isWall_24
      · refine lv_iconst (v := 1) hx hb d_Md_isWall_19 (by decide) ?_
        refine lv_goto (tgt := 24) hx hb d_Md_isWall_20 (by decide) ?_
        exact W.zret (v := 1) (ty := .boolean) hx hb hr rfl (fun t ht hW => ⟨_, rfl, (rf_T ⟨k, hk, rfl, _, hY.one hk c_3⟩), ht⟩) (fun _ h => absurd h List.not_mem_nil) d_Md_isWall_24
set_option maxHeartbeats 4000000 in
set_option maxRecDepth 100000 in
theorem c_Md_isEnd (l : Launch) (D : va_G) (y t0 t1 t2 t3 t4 t5 : Nat) (c0 c1 c2 c3 c4 c5 : ClassId) (ma ha ex ey dx dy : Int32) (ab be : Int64) (ri : Int32) (o1 o2 : Int64) (f0 f1 f2 f3 f4 f5 : Nat → Int32) (k : Nat) (hk : k < 64) (x1 x2 : Int32) : Met l y_Md_isEnd (.code y_Md_isEnd b_Md_isEnd 4 (some (.boolean)) :: BIG) { frames := 0, cells := 0, slots := 0, locals := 0 } (rf_Pc D (y_t c0 c1 c2 c3 c4 c5) [.ref y, .int (nI k), .int x1, .int x2] (fun h => va_P D vwCl (y_7 y t0 t1 t2 t3 t4 t5 c0 c1 c2 c3 c4 c5 ma ha ex ey dx dy ab be ri o1 o2 f0 f1 f2 f3 f4 f5) h)) (vp_Si (fun r => rf_tf r (k_end (f1 k, f2 k, f3 k, f4 k) x1 x2))) 0 0 (fun _ => False) := by
  refine Met.ofW (cc := b_Md_isEnd) (maxL := 4) (ret := (some (.boolean))) (by decide) rfl ?_
  intro p e s m args below meth c s₁ B hml hv
  obtain ⟨rfl, hE, hP⟩ := hv
  have hx := B.exec
  have hb := B.bytes
  have hr := B.returns
  have hts : ∀ w ∈ BIG, w.before [.ref y, .int (nI k), .int x1, .int x2].toArray s = true := fun w h => atoms_spec (ws := .code y_Md_isEnd b_Md_isEnd 4 (some (.boolean)) :: BIG) B.pre w (List.mem_cons_of_mem _ h)
  have hown : s.vm.findClass "RayFieldModel" = some m.cls := findClass_of_methodNamed B.named
  have hlocks := B.notSynchronized
  have hK := hE.2
  have S0 : CallFix p m c b_Md_isEnd 4 s [.ref y, .int (nI k), .int x1, .int x2].toArray BIG "RayFieldModel" := ⟨hx, hb, hml, hown, hts⟩
  have hl := lv_entry ([.ref y, .int (nI k), .int x1, .int x2]) (n := 4) (Nat.le_of_ble_eq_true rfl)
  rw [lg_entry_eq]
  generalize (lg_sl ([.ref y, .int (nI k), .int x1, .int x2]) ++ List.replicate (4 - (lg_sl ([.ref y, .int (nI k), .int x1, .int x2])).length) Slot.unset).toArray = ls at hl ⊢
  have hl : lv_has ls 4 [(0, .ref y), (1, .int (nI k)), (2, .int x1), (3, .int x2)] := hl
  have hP : va_P D vwCl (y_7 y t0 t1 t2 t3 t4 t5 c0 c1 c2 c3 c4 c5 ma ha ex ey dx dy ab be ri o1 o2 f0 f1 f2 f3 f4 f5) s.heap := hP
  refine lv_aload_n hx hb d_Md_isEnd_0 rfl (lv_at hl 0 rfl) ?_
  refine va_get (D := D) (ci := 4) (v := .ref t1) (C := "RayFieldModel") (T := F_Md) (N := 18) hx hb hts in_Md hown hK hP 0 rfl rfl 2 (by decide) (hts _ w_282) (fun _ h9 => h9) rfl d_Md_isEnd_1 ?_
  refine lv_iload_n hx hb d_Md_isEnd_4 rfl (lv_at hl 1 rfl) ?_
  refine rf_iald hx hb hK hP 2 1 rfl rfl hk (by decide) d_Md_isEnd_5 ?_
  refine lv_iload_n hx hb d_Md_isEnd_6 rfl (lv_at hl 2 rfl) ?_
  refine lv_icmp_ne (tgt := 20) hx hb d_Md_isEnd_7 (by decide) (fun c_1 => ?_) (fun c_1 => ?_)
  · refine lv_aload_n hx hb d_Md_isEnd_20 rfl (lv_at hl 0 rfl) ?_
    refine va_get (D := D) (ci := 4) (v := .ref t3) (C := "RayFieldModel") (T := F_Md) (N := 18) hx hb hts in_Md hown hK hP 0 rfl rfl 4 (by decide) (hts _ w_284) (fun _ h9 => h9) rfl d_Md_isEnd_21 ?_
    refine lv_iload_n hx hb d_Md_isEnd_24 rfl (lv_at hl 1 rfl) ?_
    refine rf_iald hx hb hK hP 4 3 rfl rfl hk (by decide) d_Md_isEnd_25 ?_
    refine lv_iload_n hx hb d_Md_isEnd_26 rfl (lv_at hl 2 rfl) ?_
    refine lv_icmp_ne (tgt := 44) hx hb d_Md_isEnd_27 (by decide) (fun c_2 => ?_) (fun c_2 => ?_)
    · refine lv_iconst (v := 0) hx hb d_Md_isEnd_44 (by decide) ?_
      exact W.zret (v := 0) (ty := .boolean) hx hb hr rfl (fun t ht hW => ⟨_, rfl, (rf_F (fun h => h.elim (fun h => c_1 h.1) (fun h => c_2 h.1))), ht⟩) (fun _ h => absurd h List.not_mem_nil) d_Md_isEnd_45
    · refine lv_aload_n hx hb d_Md_isEnd_30 rfl (lv_at hl 0 rfl) ?_
      refine va_get (D := D) (ci := 4) (v := .ref t4) (C := "RayFieldModel") (T := F_Md) (N := 18) hx hb hts in_Md hown hK hP 0 rfl rfl 5 (by decide) (hts _ w_285) (fun _ h9 => h9) rfl d_Md_isEnd_31 ?_
      refine lv_iload_n hx hb d_Md_isEnd_34 rfl (lv_at hl 1 rfl) ?_
      refine rf_iald hx hb hK hP 5 4 rfl rfl hk (by decide) d_Md_isEnd_35 ?_
      refine lv_iload_n hx hb d_Md_isEnd_36 rfl (lv_at hl 3 rfl) ?_
      refine lv_icmp_ne (tgt := 44) hx hb d_Md_isEnd_37 (by decide) (fun c_3 => ?_) (fun c_3 => ?_)
      · refine lv_iconst (v := 0) hx hb d_Md_isEnd_44 (by decide) ?_
        exact W.zret (v := 0) (ty := .boolean) hx hb hr rfl (fun t ht hW => ⟨_, rfl, (rf_F (fun h => h.elim (fun h => c_1 h.1) (fun h => c_3 h.2))), ht⟩) (fun _ h => absurd h List.not_mem_nil) d_Md_isEnd_45
      · refine lv_iconst (v := 1) hx hb d_Md_isEnd_40 (by decide) ?_
        refine lv_goto (tgt := 45) hx hb d_Md_isEnd_41 (by decide) ?_
        exact W.zret (v := 1) (ty := .boolean) hx hb hr rfl (fun t ht hW => ⟨_, rfl, (rf_T (Or.inr ⟨c_2, c_3⟩)), ht⟩) (fun _ h => absurd h List.not_mem_nil) d_Md_isEnd_45
  · refine lv_aload_n hx hb d_Md_isEnd_10 rfl (lv_at hl 0 rfl) ?_
    refine va_get (D := D) (ci := 4) (v := .ref t2) (C := "RayFieldModel") (T := F_Md) (N := 18) hx hb hts in_Md hown hK hP 0 rfl rfl 3 (by decide) (hts _ w_283) (fun _ h9 => h9) rfl d_Md_isEnd_11 ?_
    refine lv_iload_n hx hb d_Md_isEnd_14 rfl (lv_at hl 1 rfl) ?_
    refine rf_iald hx hb hK hP 3 2 rfl rfl hk (by decide) d_Md_isEnd_15 ?_
    refine lv_iload_n hx hb d_Md_isEnd_16 rfl (lv_at hl 3 rfl) ?_
    refine lv_icmp_eq (tgt := 40) hx hb d_Md_isEnd_17 (by decide) (fun c_4 => ?_) (fun c_4 => ?_)
    · refine lv_iconst (v := 1) hx hb d_Md_isEnd_40 (by decide) ?_
      refine lv_goto (tgt := 45) hx hb d_Md_isEnd_41 (by decide) ?_
      exact W.zret (v := 1) (ty := .boolean) hx hb hr rfl (fun t ht hW => ⟨_, rfl, (rf_T (Or.inl ⟨c_1, c_4⟩)), ht⟩) (fun _ h => absurd h List.not_mem_nil) d_Md_isEnd_45
    · refine lv_aload_n hx hb d_Md_isEnd_20 rfl (lv_at hl 0 rfl) ?_
      refine va_get (D := D) (ci := 4) (v := .ref t3) (C := "RayFieldModel") (T := F_Md) (N := 18) hx hb hts in_Md hown hK hP 0 rfl rfl 4 (by decide) (hts _ w_284) (fun _ h9 => h9) rfl d_Md_isEnd_21 ?_
      refine lv_iload_n hx hb d_Md_isEnd_24 rfl (lv_at hl 1 rfl) ?_
      refine rf_iald hx hb hK hP 4 3 rfl rfl hk (by decide) d_Md_isEnd_25 ?_
      refine lv_iload_n hx hb d_Md_isEnd_26 rfl (lv_at hl 2 rfl) ?_
      refine lv_icmp_ne (tgt := 44) hx hb d_Md_isEnd_27 (by decide) (fun c_5 => ?_) (fun c_5 => ?_)
      · refine lv_iconst (v := 0) hx hb d_Md_isEnd_44 (by decide) ?_
        exact W.zret (v := 0) (ty := .boolean) hx hb hr rfl (fun t ht hW => ⟨_, rfl, (rf_F (fun h => h.elim (fun h => c_4 h.2) (fun h => c_5 h.1))), ht⟩) (fun _ h => absurd h List.not_mem_nil) d_Md_isEnd_45
      · refine lv_aload_n hx hb d_Md_isEnd_30 rfl (lv_at hl 0 rfl) ?_
        refine va_get (D := D) (ci := 4) (v := .ref t4) (C := "RayFieldModel") (T := F_Md) (N := 18) hx hb hts in_Md hown hK hP 0 rfl rfl 5 (by decide) (hts _ w_285) (fun _ h9 => h9) rfl d_Md_isEnd_31 ?_
        refine lv_iload_n hx hb d_Md_isEnd_34 rfl (lv_at hl 1 rfl) ?_
        refine rf_iald hx hb hK hP 5 4 rfl rfl hk (by decide) d_Md_isEnd_35 ?_
        refine lv_iload_n hx hb d_Md_isEnd_36 rfl (lv_at hl 3 rfl) ?_
        refine lv_icmp_ne (tgt := 44) hx hb d_Md_isEnd_37 (by decide) (fun c_6 => ?_) (fun c_6 => ?_)
        · refine lv_iconst (v := 0) hx hb d_Md_isEnd_44 (by decide) ?_
          exact W.zret (v := 0) (ty := .boolean) hx hb hr rfl (fun t ht hW => ⟨_, rfl, (rf_F (fun h => h.elim (fun h => c_4 h.2) (fun h => c_6 h.2))), ht⟩) (fun _ h => absurd h List.not_mem_nil) d_Md_isEnd_45
        · refine lv_iconst (v := 1) hx hb d_Md_isEnd_40 (by decide) ?_
          refine lv_goto (tgt := 45) hx hb d_Md_isEnd_41 (by decide) ?_
          exact W.zret (v := 1) (ty := .boolean) hx hb hr rfl (fun t ht hW => ⟨_, rfl, (rf_T (Or.inr ⟨c_5, c_6⟩)), ht⟩) (fun _ h => absurd h List.not_mem_nil) d_Md_isEnd_45
set_option maxHeartbeats 4000000 in
set_option maxRecDepth 100000 in
theorem c_Md_isOn (l : Launch) (D : va_G) (y t0 t1 t2 t3 t4 t5 : Nat) (c0 c1 c2 c3 c4 c5 : ClassId) (ma ha ex ey dx dy : Int32) (ab be : Int64) (ri : Int32) (o1 o2 : Int64) (f0 f1 f2 f3 f4 f5 : Nat → Int32) (k : Nat) (hk : k < 64) (x1 x2 : Int32) : Met l y_Md_isOn (.code y_Md_isOn b_Md_isOn 8 (some (.boolean)) :: BIG) { frames := 1, cells := 0, slots := 0, locals := 40 } (rf_Pc D (y_t c0 c1 c2 c3 c4 c5) [.ref y, .int (nI k), .int x1, .int x2] (fun h => va_P D vwCl (y_7 y t0 t1 t2 t3 t4 t5 c0 c1 c2 c3 c4 c5 ma ha ex ey dx dy ab be ri o1 o2 f0 f1 f2 f3 f4 f5) h)) (vp_Si (fun r => rf_tf r (k_on (f1 k, f2 k, f3 k, f4 k) x1 x2))) 0 0 (fun _ => False) := by
  refine Met.ofW (cc := b_Md_isOn) (maxL := 8) (ret := (some (.boolean))) (by decide) rfl ?_
  intro p e s m args below meth c s₁ B hml hv
  obtain ⟨rfl, hE, hP⟩ := hv
  have hx := B.exec
  have hb := B.bytes
  have hr := B.returns
  have hts : ∀ w ∈ BIG, w.before [.ref y, .int (nI k), .int x1, .int x2].toArray s = true := fun w h => atoms_spec (ws := .code y_Md_isOn b_Md_isOn 8 (some (.boolean)) :: BIG) B.pre w (List.mem_cons_of_mem _ h)
  have hown : s.vm.findClass "RayFieldModel" = some m.cls := findClass_of_methodNamed B.named
  have hlocks := B.notSynchronized
  have hK := hE.2
  have S0 : CallFix p m c b_Md_isOn 8 s [.ref y, .int (nI k), .int x1, .int x2].toArray BIG "RayFieldModel" := ⟨hx, hb, hml, hown, hts⟩
  have hl := lv_entry ([.ref y, .int (nI k), .int x1, .int x2]) (n := 8) (Nat.le_of_ble_eq_true rfl)
  rw [lg_entry_eq]
  generalize (lg_sl ([.ref y, .int (nI k), .int x1, .int x2]) ++ List.replicate (8 - (lg_sl ([.ref y, .int (nI k), .int x1, .int x2])).length) Slot.unset).toArray = ls at hl ⊢
  have hl : lv_has ls 8 [(0, .ref y), (1, .int (nI k)), (2, .int x1), (3, .int x2)] := hl
  have hP : va_P D vwCl (y_7 y t0 t1 t2 t3 t4 t5 c0 c1 c2 c3 c4 c5 ma ha ex ey dx dy ab be ri o1 o2 f0 f1 f2 f3 f4 f5) s.heap := hP
  refine rf_joinI 30 [] (fun b => b = k_lo (f1 k) (f3 k)) (fun b hb0 => ?_) (fun J => ?_)
  · subst hb0
    refine lv_istore (lv' := [(4, .int (k_lo (f1 k) (f3 k))), (0, .ref y), (1, .int (nI k)), (2, .int x1), (3, .int x2)]) hx hb d_Md_isOn_30 hl (by decide) rfl (fun ls hl => ?_)
    refine rf_joinI 62 [] (fun b => b = k_hi (f1 k) (f3 k)) (fun b hb0 => ?_) (fun J => ?_)
    · subst hb0
      refine lv_istore (lv' := [(5, .int (k_hi (f1 k) (f3 k))), (4, .int (k_lo (f1 k) (f3 k))), (0, .ref y), (1, .int (nI k)), (2, .int x1), (3, .int x2)]) hx hb d_Md_isOn_62 hl (by decide) rfl (fun ls hl => ?_)
      refine rf_joinI 94 [] (fun b => b = k_lo (f2 k) (f4 k)) (fun b hb0 => ?_) (fun J => ?_)
      · subst hb0
        refine lv_istore (lv' := [(6, .int (k_lo (f2 k) (f4 k))), (5, .int (k_hi (f1 k) (f3 k))), (4, .int (k_lo (f1 k) (f3 k))), (0, .ref y), (1, .int (nI k)), (2, .int x1), (3, .int x2)]) hx hb d_Md_isOn_94 hl (by decide) rfl (fun ls hl => ?_)
        refine rf_joinI 126 [] (fun b => b = k_hi (f2 k) (f4 k)) (fun b hb0 => ?_) (fun J => ?_)
        · subst hb0
          refine lv_istore (lv' := [(7, .int (k_hi (f2 k) (f4 k))), (6, .int (k_lo (f2 k) (f4 k))), (5, .int (k_hi (f1 k) (f3 k))), (4, .int (k_lo (f1 k) (f3 k))), (0, .ref y), (1, .int (nI k)), (2, .int x1), (3, .int x2)]) hx hb d_Md_isOn_126 hl (by decide) rfl (fun ls hl => ?_)
          refine lv_aload_n hx hb d_Md_isOn_128 rfl (lv_at hl 4 rfl) ?_
          refine va_get (D := D) (ci := 4) (v := .ref t3) (C := "RayFieldModel") (T := F_Md) (N := 18) hx hb hts in_Md hown hK hP 0 rfl rfl 4 (by decide) (hts _ w_284) (fun _ h9 => h9) rfl d_Md_isOn_129 ?_
          refine lv_iload_n hx hb d_Md_isOn_132 rfl (lv_at hl 5 rfl) ?_
          refine rf_iald hx hb hK hP 4 3 rfl rfl hk (by decide) d_Md_isOn_133 ?_
          refine lv_aload_n hx hb d_Md_isOn_134 rfl (lv_at hl 4 rfl) ?_
          refine va_get (D := D) (ci := 4) (v := .ref t1) (C := "RayFieldModel") (T := F_Md) (N := 18) hx hb hts in_Md hown hK hP 0 rfl rfl 2 (by decide) (hts _ w_282) (fun _ h9 => h9) rfl d_Md_isOn_135 ?_
          refine lv_iload_n hx hb d_Md_isOn_138 rfl (lv_at hl 5 rfl) ?_
          refine rf_iald hx hb hK hP 2 1 rfl rfl hk (by decide) d_Md_isOn_139 ?_
          refine lv_isub hx hb d_Md_isOn_140 ?_
          refine lv_i2l hx hb d_Md_isOn_141 rfl ?_
          refine lv_aload_n hx hb d_Md_isOn_142 rfl (lv_at hl 4 rfl) ?_
          refine va_get (D := D) (ci := 4) (v := .ref t4) (C := "RayFieldModel") (T := F_Md) (N := 18) hx hb hts in_Md hown hK hP 0 rfl rfl 5 (by decide) (hts _ w_285) (fun _ h9 => h9) rfl d_Md_isOn_143 ?_
          refine lv_iload_n hx hb d_Md_isOn_146 rfl (lv_at hl 5 rfl) ?_
          refine rf_iald hx hb hK hP 5 4 rfl rfl hk (by decide) d_Md_isOn_147 ?_
          refine lv_aload_n hx hb d_Md_isOn_148 rfl (lv_at hl 4 rfl) ?_
          refine va_get (D := D) (ci := 4) (v := .ref t2) (C := "RayFieldModel") (T := F_Md) (N := 18) hx hb hts in_Md hown hK hP 0 rfl rfl 3 (by decide) (hts _ w_283) (fun _ h9 => h9) rfl d_Md_isOn_149 ?_
          refine lv_iload_n hx hb d_Md_isOn_152 rfl (lv_at hl 5 rfl) ?_
          refine rf_iald hx hb hK hP 3 2 rfl rfl hk (by decide) d_Md_isOn_153 ?_
          refine lv_isub hx hb d_Md_isOn_154 ?_
          refine lv_i2l hx hb d_Md_isOn_155 rfl ?_
          refine lv_iload_n hx hb d_Md_isOn_156 rfl (lv_at hl 6 rfl) ?_
          refine lv_aload_n hx hb d_Md_isOn_157 rfl (lv_at hl 4 rfl) ?_
          refine va_get (D := D) (ci := 4) (v := .ref t1) (C := "RayFieldModel") (T := F_Md) (N := 18) hx hb hts in_Md hown hK hP 0 rfl rfl 2 (by decide) (hts _ w_282) (fun _ h9 => h9) rfl d_Md_isOn_158 ?_
          refine lv_iload_n hx hb d_Md_isOn_161 rfl (lv_at hl 5 rfl) ?_
          refine rf_iald hx hb hK hP 2 1 rfl rfl hk (by decide) d_Md_isOn_162 ?_
          refine lv_isub hx hb d_Md_isOn_163 ?_
          refine lv_i2l hx hb d_Md_isOn_164 rfl ?_
          refine lv_iload_n hx hb d_Md_isOn_165 rfl (lv_at hl 7 rfl) ?_
          refine lv_aload_n hx hb d_Md_isOn_166 rfl (lv_at hl 4 rfl) ?_
          refine va_get (D := D) (ci := 4) (v := .ref t2) (C := "RayFieldModel") (T := F_Md) (N := 18) hx hb hts in_Md hown hK hP 0 rfl rfl 3 (by decide) (hts _ w_283) (fun _ h9 => h9) rfl d_Md_isOn_167 ?_
          refine lv_iload_n hx hb d_Md_isOn_170 rfl (lv_at hl 5 rfl) ?_
          refine rf_iald hx hb hK hP 3 2 rfl rfl hk (by decide) d_Md_isOn_171 ?_
          refine lv_isub hx hb d_Md_isOn_172 ?_
          refine lv_i2l hx hb d_Md_isOn_173 rfl ?_
          refine vp_callSl (va_Run.run (rf_runS (As := [.long (((f3 k) - (f1 k)).toInt64), .long (((f4 k) - (f2 k)).toInt64), .long ((x1 - (f1 k)).toInt64), .long ((x2 - (f2 k)).toInt64)]) (rest := []) S0 ml_Md_33 (c_Md_cross l D (y_t c0 c1 c2 c3 c4 c5) (((f3 k) - (f1 k)).toInt64) (((f4 k) - (f2 k)).toInt64) ((x1 - (f1 k)).toInt64) ((x2 - (f2 k)).toInt64)) hE trivial ⟨rfl, rfl, Nat.le_of_ble_eq_true rfl, Nat.le_of_ble_eq_true rfl⟩ rfl hl.1 rfl (Nat.le_of_ble_eq_true rfl) d_Md_isOn_174 ⟨Nat.zero_le _, Nat.zero_le _⟩)) (fun r_1 h_2 => ?_)
          subst h_2
          refine lv_lconst (v := 0) hx hb d_Md_isOn_177 (by decide) ?_
          refine rf_lcmp_ne (tgt := 210) hx hb d_Md_isOn_178 d_Md_isOn_179 (by decide) (fun c_3 => ?_) (fun c_3 => ?_)
          · refine lv_iconst (v := 0) hx hb d_Md_isOn_210 (by decide) ?_
            exact W.zret (v := 0) (ty := .boolean) hx hb hr rfl (fun t ht hW => ⟨_, rfl, (rf_F (fun h => c_3 h.1)), ht⟩) (fun _ h => absurd h List.not_mem_nil) d_Md_isOn_211
          · refine lv_iload_n hx hb d_Md_isOn_182 rfl (lv_at hl 6 rfl) ?_
            refine lv_iload hx hb d_Md_isOn_183 (lv_at hl 3 rfl) ?_
            refine lv_icmp_lt (tgt := 210) hx hb d_Md_isOn_185 (by decide) (fun c_4 => ?_) (fun c_4 => ?_)
            · refine lv_iconst (v := 0) hx hb d_Md_isOn_210 (by decide) ?_
              exact W.zret (v := 0) (ty := .boolean) hx hb hr rfl (fun t ht hW => ⟨_, rfl, (rf_F (fun h => (Int32.not_le.mpr c_4) h.2.1)), ht⟩) (fun _ h => absurd h List.not_mem_nil) d_Md_isOn_211
            · refine lv_iload_n hx hb d_Md_isOn_188 rfl (lv_at hl 6 rfl) ?_
              refine lv_iload hx hb d_Md_isOn_189 (lv_at hl 2 rfl) ?_
              refine lv_icmp_gt (tgt := 210) hx hb d_Md_isOn_191 (by decide) (fun c_5 => ?_) (fun c_5 => ?_)
              · refine lv_iconst (v := 0) hx hb d_Md_isOn_210 (by decide) ?_
                exact W.zret (v := 0) (ty := .boolean) hx hb hr rfl (fun t ht hW => ⟨_, rfl, (rf_F (fun h => (Int32.not_le.mpr c_5) h.2.2.1)), ht⟩) (fun _ h => absurd h List.not_mem_nil) d_Md_isOn_211
              · refine lv_iload_n hx hb d_Md_isOn_194 rfl (lv_at hl 7 rfl) ?_
                refine lv_iload hx hb d_Md_isOn_195 (lv_at hl 1 rfl) ?_
                refine lv_icmp_lt (tgt := 210) hx hb d_Md_isOn_197 (by decide) (fun c_6 => ?_) (fun c_6 => ?_)
                · refine lv_iconst (v := 0) hx hb d_Md_isOn_210 (by decide) ?_
                  exact W.zret (v := 0) (ty := .boolean) hx hb hr rfl (fun t ht hW => ⟨_, rfl, (rf_F (fun h => (Int32.not_le.mpr c_6) h.2.2.2.1)), ht⟩) (fun _ h => absurd h List.not_mem_nil) d_Md_isOn_211
                · refine lv_iload_n hx hb d_Md_isOn_200 rfl (lv_at hl 7 rfl) ?_
                  refine lv_iload hx hb d_Md_isOn_201 (lv_at hl 0 rfl) ?_
                  refine lv_icmp_gt (tgt := 210) hx hb d_Md_isOn_203 (by decide) (fun c_7 => ?_) (fun c_7 => ?_)
                  · refine lv_iconst (v := 0) hx hb d_Md_isOn_210 (by decide) ?_
                    exact W.zret (v := 0) (ty := .boolean) hx hb hr rfl (fun t ht hW => ⟨_, rfl, (rf_F (fun h => (Int32.not_le.mpr c_7) h.2.2.2.2)), ht⟩) (fun _ h => absurd h List.not_mem_nil) d_Md_isOn_211
                  · refine lv_iconst (v := 1) hx hb d_Md_isOn_206 (by decide) ?_
                    refine lv_goto (tgt := 211) hx hb d_Md_isOn_207 (by decide) ?_
                    exact W.zret (v := 1) (ty := .boolean) hx hb hr rfl (fun t ht hW => ⟨_, rfl, (rf_T ⟨c_3, (Int32.not_lt.mp c_4), (Int32.not_lt.mp c_5), (Int32.not_lt.mp c_6), (Int32.not_lt.mp c_7)⟩), ht⟩) (fun _ h => absurd h List.not_mem_nil) d_Md_isOn_211
        · refine lv_aload_n hx hb d_Md_isOn_96 rfl (lv_at hl 3 rfl) ?_
          refine va_get (D := D) (ci := 4) (v := .ref t2) (C := "RayFieldModel") (T := F_Md) (N := 18) hx hb hts in_Md hown hK hP 0 rfl rfl 3 (by decide) (hts _ w_283) (fun _ h9 => h9) rfl d_Md_isOn_97 ?_
          refine lv_iload_n hx hb d_Md_isOn_100 rfl (lv_at hl 4 rfl) ?_
          refine rf_iald hx hb hK hP 3 2 rfl rfl hk (by decide) d_Md_isOn_101 ?_
          refine lv_aload_n hx hb d_Md_isOn_102 rfl (lv_at hl 3 rfl) ?_
          refine va_get (D := D) (ci := 4) (v := .ref t4) (C := "RayFieldModel") (T := F_Md) (N := 18) hx hb hts in_Md hown hK hP 0 rfl rfl 5 (by decide) (hts _ w_285) (fun _ h9 => h9) rfl d_Md_isOn_103 ?_
          refine lv_iload_n hx hb d_Md_isOn_106 rfl (lv_at hl 4 rfl) ?_
          refine rf_iald hx hb hK hP 5 4 rfl rfl hk (by decide) d_Md_isOn_107 ?_
          refine lv_icmp_ge (tgt := 120) hx hb d_Md_isOn_108 (by decide) (fun c_8 => ?_) (fun c_8 => ?_)
          · refine lv_aload_n hx hb d_Md_isOn_120 rfl (lv_at hl 3 rfl) ?_
            refine va_get (D := D) (ci := 4) (v := .ref t2) (C := "RayFieldModel") (T := F_Md) (N := 18) hx hb hts in_Md hown hK hP 0 rfl rfl 3 (by decide) (hts _ w_283) (fun _ h9 => h9) rfl d_Md_isOn_121 ?_
            refine lv_iload_n hx hb d_Md_isOn_124 rfl (lv_at hl 4 rfl) ?_
            refine rf_iald hx hb hK hP 3 2 rfl rfl hk (by decide) d_Md_isOn_125 ?_
            exact J _ (if_neg (Int32.not_lt.mpr c_8)).symm
          · refine lv_aload_n hx hb d_Md_isOn_111 rfl (lv_at hl 3 rfl) ?_
            refine va_get (D := D) (ci := 4) (v := .ref t4) (C := "RayFieldModel") (T := F_Md) (N := 18) hx hb hts in_Md hown hK hP 0 rfl rfl 5 (by decide) (hts _ w_285) (fun _ h9 => h9) rfl d_Md_isOn_112 ?_
            refine lv_iload_n hx hb d_Md_isOn_115 rfl (lv_at hl 4 rfl) ?_
            refine rf_iald hx hb hK hP 5 4 rfl rfl hk (by decide) d_Md_isOn_116 ?_
            refine lv_goto (tgt := 126) hx hb d_Md_isOn_117 (by decide) ?_
            exact J _ (if_pos (Int32.not_le.mp c_8)).symm
      · refine lv_aload_n hx hb d_Md_isOn_64 rfl (lv_at hl 2 rfl) ?_
        refine va_get (D := D) (ci := 4) (v := .ref t2) (C := "RayFieldModel") (T := F_Md) (N := 18) hx hb hts in_Md hown hK hP 0 rfl rfl 3 (by decide) (hts _ w_283) (fun _ h9 => h9) rfl d_Md_isOn_65 ?_
        refine lv_iload_n hx hb d_Md_isOn_68 rfl (lv_at hl 3 rfl) ?_
        refine rf_iald hx hb hK hP 3 2 rfl rfl hk (by decide) d_Md_isOn_69 ?_
        refine lv_aload_n hx hb d_Md_isOn_70 rfl (lv_at hl 2 rfl) ?_
        refine va_get (D := D) (ci := 4) (v := .ref t4) (C := "RayFieldModel") (T := F_Md) (N := 18) hx hb hts in_Md hown hK hP 0 rfl rfl 5 (by decide) (hts _ w_285) (fun _ h9 => h9) rfl d_Md_isOn_71 ?_
        refine lv_iload_n hx hb d_Md_isOn_74 rfl (lv_at hl 3 rfl) ?_
        refine rf_iald hx hb hK hP 5 4 rfl rfl hk (by decide) d_Md_isOn_75 ?_
        refine lv_icmp_ge (tgt := 88) hx hb d_Md_isOn_76 (by decide) (fun c_9 => ?_) (fun c_9 => ?_)
        · refine lv_aload_n hx hb d_Md_isOn_88 rfl (lv_at hl 2 rfl) ?_
          refine va_get (D := D) (ci := 4) (v := .ref t4) (C := "RayFieldModel") (T := F_Md) (N := 18) hx hb hts in_Md hown hK hP 0 rfl rfl 5 (by decide) (hts _ w_285) (fun _ h9 => h9) rfl d_Md_isOn_89 ?_
          refine lv_iload_n hx hb d_Md_isOn_92 rfl (lv_at hl 3 rfl) ?_
          refine rf_iald hx hb hK hP 5 4 rfl rfl hk (by decide) d_Md_isOn_93 ?_
          exact J _ (if_neg (Int32.not_lt.mpr c_9)).symm
        · refine lv_aload_n hx hb d_Md_isOn_79 rfl (lv_at hl 2 rfl) ?_
          refine va_get (D := D) (ci := 4) (v := .ref t2) (C := "RayFieldModel") (T := F_Md) (N := 18) hx hb hts in_Md hown hK hP 0 rfl rfl 3 (by decide) (hts _ w_283) (fun _ h9 => h9) rfl d_Md_isOn_80 ?_
          refine lv_iload_n hx hb d_Md_isOn_83 rfl (lv_at hl 3 rfl) ?_
          refine rf_iald hx hb hK hP 3 2 rfl rfl hk (by decide) d_Md_isOn_84 ?_
          refine lv_goto (tgt := 94) hx hb d_Md_isOn_85 (by decide) ?_
          exact J _ (if_pos (Int32.not_le.mp c_9)).symm
    · refine lv_aload_n hx hb d_Md_isOn_32 rfl (lv_at hl 1 rfl) ?_
      refine va_get (D := D) (ci := 4) (v := .ref t1) (C := "RayFieldModel") (T := F_Md) (N := 18) hx hb hts in_Md hown hK hP 0 rfl rfl 2 (by decide) (hts _ w_282) (fun _ h9 => h9) rfl d_Md_isOn_33 ?_
      refine lv_iload_n hx hb d_Md_isOn_36 rfl (lv_at hl 2 rfl) ?_
      refine rf_iald hx hb hK hP 2 1 rfl rfl hk (by decide) d_Md_isOn_37 ?_
      refine lv_aload_n hx hb d_Md_isOn_38 rfl (lv_at hl 1 rfl) ?_
      refine va_get (D := D) (ci := 4) (v := .ref t3) (C := "RayFieldModel") (T := F_Md) (N := 18) hx hb hts in_Md hown hK hP 0 rfl rfl 4 (by decide) (hts _ w_284) (fun _ h9 => h9) rfl d_Md_isOn_39 ?_
      refine lv_iload_n hx hb d_Md_isOn_42 rfl (lv_at hl 2 rfl) ?_
      refine rf_iald hx hb hK hP 4 3 rfl rfl hk (by decide) d_Md_isOn_43 ?_
      refine lv_icmp_ge (tgt := 56) hx hb d_Md_isOn_44 (by decide) (fun c_10 => ?_) (fun c_10 => ?_)
      · refine lv_aload_n hx hb d_Md_isOn_56 rfl (lv_at hl 1 rfl) ?_
        refine va_get (D := D) (ci := 4) (v := .ref t1) (C := "RayFieldModel") (T := F_Md) (N := 18) hx hb hts in_Md hown hK hP 0 rfl rfl 2 (by decide) (hts _ w_282) (fun _ h9 => h9) rfl d_Md_isOn_57 ?_
        refine lv_iload_n hx hb d_Md_isOn_60 rfl (lv_at hl 2 rfl) ?_
        refine rf_iald hx hb hK hP 2 1 rfl rfl hk (by decide) d_Md_isOn_61 ?_
        exact J _ (if_neg (Int32.not_lt.mpr c_10)).symm
      · refine lv_aload_n hx hb d_Md_isOn_47 rfl (lv_at hl 1 rfl) ?_
        refine va_get (D := D) (ci := 4) (v := .ref t3) (C := "RayFieldModel") (T := F_Md) (N := 18) hx hb hts in_Md hown hK hP 0 rfl rfl 4 (by decide) (hts _ w_284) (fun _ h9 => h9) rfl d_Md_isOn_48 ?_
        refine lv_iload_n hx hb d_Md_isOn_51 rfl (lv_at hl 2 rfl) ?_
        refine rf_iald hx hb hK hP 4 3 rfl rfl hk (by decide) d_Md_isOn_52 ?_
        refine lv_goto (tgt := 62) hx hb d_Md_isOn_53 (by decide) ?_
        exact J _ (if_pos (Int32.not_le.mp c_10)).symm
  · refine lv_aload_n hx hb d_Md_isOn_0 rfl (lv_at hl 0 rfl) ?_
    refine va_get (D := D) (ci := 4) (v := .ref t1) (C := "RayFieldModel") (T := F_Md) (N := 18) hx hb hts in_Md hown hK hP 0 rfl rfl 2 (by decide) (hts _ w_282) (fun _ h9 => h9) rfl d_Md_isOn_1 ?_
    refine lv_iload_n hx hb d_Md_isOn_4 rfl (lv_at hl 1 rfl) ?_
    refine rf_iald hx hb hK hP 2 1 rfl rfl hk (by decide) d_Md_isOn_5 ?_
    refine lv_aload_n hx hb d_Md_isOn_6 rfl (lv_at hl 0 rfl) ?_
    refine va_get (D := D) (ci := 4) (v := .ref t3) (C := "RayFieldModel") (T := F_Md) (N := 18) hx hb hts in_Md hown hK hP 0 rfl rfl 4 (by decide) (hts _ w_284) (fun _ h9 => h9) rfl d_Md_isOn_7 ?_
    refine lv_iload_n hx hb d_Md_isOn_10 rfl (lv_at hl 1 rfl) ?_
    refine rf_iald hx hb hK hP 4 3 rfl rfl hk (by decide) d_Md_isOn_11 ?_
    refine lv_icmp_ge (tgt := 24) hx hb d_Md_isOn_12 (by decide) (fun c_11 => ?_) (fun c_11 => ?_)
    · refine lv_aload_n hx hb d_Md_isOn_24 rfl (lv_at hl 0 rfl) ?_
      refine va_get (D := D) (ci := 4) (v := .ref t3) (C := "RayFieldModel") (T := F_Md) (N := 18) hx hb hts in_Md hown hK hP 0 rfl rfl 4 (by decide) (hts _ w_284) (fun _ h9 => h9) rfl d_Md_isOn_25 ?_
      refine lv_iload_n hx hb d_Md_isOn_28 rfl (lv_at hl 1 rfl) ?_
      refine rf_iald hx hb hK hP 4 3 rfl rfl hk (by decide) d_Md_isOn_29 ?_
      exact J _ (if_neg (Int32.not_lt.mpr c_11)).symm
    · refine lv_aload_n hx hb d_Md_isOn_15 rfl (lv_at hl 0 rfl) ?_
      refine va_get (D := D) (ci := 4) (v := .ref t1) (C := "RayFieldModel") (T := F_Md) (N := 18) hx hb hts in_Md hown hK hP 0 rfl rfl 2 (by decide) (hts _ w_282) (fun _ h9 => h9) rfl d_Md_isOn_16 ?_
      refine lv_iload_n hx hb d_Md_isOn_19 rfl (lv_at hl 1 rfl) ?_
      refine rf_iald hx hb hK hP 2 1 rfl rfl hk (by decide) d_Md_isOn_20 ?_
      refine lv_goto (tgt := 30) hx hb d_Md_isOn_21 (by decide) ?_
      exact J _ (if_pos (Int32.not_le.mp c_11)).symm
set_option maxHeartbeats 4000000 in
set_option maxRecDepth 100000 in
theorem c_Md_down (l : Launch) (D : va_G) (tys : List (ClassId × FieldType)) (a b : Int64) (hy : ¬ b = 0) : Met l y_Md_down (.code y_Md_down b_Md_down 6 (some (.long)) :: BIG) { frames := 0, cells := 0, slots := 0, locals := 0 } (rf_Pc D tys [.long a, .long b] (fun _ => True)) (vp_Sl (fun r => r = k_down a b)) 0 0 (fun _ => False) := by
  refine Met.ofW (cc := b_Md_down) (maxL := 6) (ret := (some (.long))) (by decide) rfl ?_
  intro p e s m args below meth c s₁ B hml hv
  obtain ⟨rfl, hE, hP⟩ := hv
  have hx := B.exec
  have hb := B.bytes
  have hr := B.returns
  have hts : ∀ w ∈ BIG, w.before [.long a, .long b].toArray s = true := fun w h => atoms_spec (ws := .code y_Md_down b_Md_down 6 (some (.long)) :: BIG) B.pre w (List.mem_cons_of_mem _ h)
  have hown : s.vm.findClass "RayFieldModel" = some m.cls := findClass_of_methodNamed B.named
  have hlocks := B.notSynchronized
  have hK := hE.2
  have S0 : CallFix p m c b_Md_down 6 s [.long a, .long b].toArray BIG "RayFieldModel" := ⟨hx, hb, hml, hown, hts⟩
  have hl := lv_entry ([.long a, .long b]) (n := 6) (Nat.le_of_ble_eq_true rfl)
  rw [lg_entry_eq]
  generalize (lg_sl ([.long a, .long b]) ++ List.replicate (6 - (lg_sl ([.long a, .long b])).length) Slot.unset).toArray = ls at hl ⊢
  have hl : lv_has ls 6 [(0, .long a), (2, .long b)] := hl
  refine lv_lload_n hx hb d_Md_down_0 rfl (lv_at hl 0 rfl) ?_
  refine lv_lload_n hx hb d_Md_down_1 rfl (lv_at hl 1 rfl) ?_
  refine lv_ldiv hx hb d_Md_down_2 hy ?_
  refine lv_lstore (lv' := [(4, .long (a / b)), (0, .long a), (2, .long b)]) hx hb d_Md_down_3 hl (by decide) rfl (fun ls hl => ?_)
  refine lv_lload_n hx hb d_Md_down_5 rfl (lv_at hl 1 rfl) ?_
  refine lv_lload_n hx hb d_Md_down_6 rfl (lv_at hl 2 rfl) ?_
  refine lv_lrem hx hb d_Md_down_7 hy ?_
  refine lv_lconst (v := 0) hx hb d_Md_down_8 (by decide) ?_
  refine rf_lcmp_eq (tgt := 45) hx hb d_Md_down_9 d_Md_down_10 (by decide) (fun c_1 => ?_) (fun c_1 => ?_)
  · refine lv_lload hx hb d_Md_down_45 (lv_at hl 0 rfl) ?_
    exact W.lret (v := a / b) hx hb hr (fun t ht hW => ⟨_, rfl, (if_neg (fun h => h.1 c_1)).symm, ht⟩) (fun _ h => absurd h List.not_mem_nil) d_Md_down_47
  · refine lv_lload_n hx hb d_Md_down_13 rfl (lv_at hl 1 rfl) ?_
    refine lv_lconst (v := 0) hx hb d_Md_down_14 (by decide) ?_
    refine rf_lcmp_ge (tgt := 23) hx hb d_Md_down_15 d_Md_down_16 (by decide) (fun c_2 => ?_) (fun c_2 => ?_)
    · refine lv_iconst (v := 0) hx hb d_Md_down_23 (by decide) ?_
      refine lv_lload_n hx hb d_Md_down_24 rfl (lv_at hl 2 rfl) ?_
      refine lv_lconst (v := 0) hx hb d_Md_down_25 (by decide) ?_
      refine rf_lcmp_ge (tgt := 34) hx hb d_Md_down_26 d_Md_down_27 (by decide) (fun c_3 => ?_) (fun c_3 => ?_)
      · refine lv_iconst (v := 0) hx hb d_Md_down_34 (by decide) ?_
        refine lv_icmp_eq (tgt := 45) hx hb d_Md_down_35 (by decide) (fun c_4 => ?_) (fun c_4 => absurd rfl c_4)
        refine lv_lload hx hb d_Md_down_45 (lv_at hl 0 rfl) ?_
        exact W.lret (v := a / b) hx hb hr (fun t ht hW => ⟨_, rfl, (if_neg (fun h => h.2 ⟨fun q => absurd q (Int64.not_lt.mpr c_2), fun q => absurd q (Int64.not_lt.mpr c_3)⟩)).symm, ht⟩) (fun _ h => absurd h List.not_mem_nil) d_Md_down_47
      · refine lv_iconst (v := 1) hx hb d_Md_down_30 (by decide) ?_
        refine lv_goto (tgt := 35) hx hb d_Md_down_31 (by decide) ?_
        refine lv_icmp_eq (tgt := 45) hx hb d_Md_down_35 (by decide) (fun c_5 => absurd c_5 (by decide)) (fun c_5 => ?_)
        refine lv_lload hx hb d_Md_down_38 (lv_at hl 0 rfl) ?_
        refine lv_lconst (v := 1) hx hb d_Md_down_40 (by decide) ?_
        refine lv_lsub hx hb d_Md_down_41 ?_
        refine lv_goto (tgt := 47) hx hb d_Md_down_42 (by decide) ?_
        exact W.lret (v := (a / b) - 1) hx hb hr (fun t ht hW => ⟨_, rfl, (if_pos ⟨c_1, (fun h => (Int64.not_lt.mpr c_2) (h.mpr (Int64.not_le.mp c_3)))⟩).symm, ht⟩) (fun _ h => absurd h List.not_mem_nil) d_Md_down_47
    · refine lv_iconst (v := 1) hx hb d_Md_down_19 (by decide) ?_
      refine lv_goto (tgt := 24) hx hb d_Md_down_20 (by decide) ?_
      refine lv_lload_n hx hb d_Md_down_24 rfl (lv_at hl 2 rfl) ?_
      refine lv_lconst (v := 0) hx hb d_Md_down_25 (by decide) ?_
      refine rf_lcmp_ge (tgt := 34) hx hb d_Md_down_26 d_Md_down_27 (by decide) (fun c_6 => ?_) (fun c_6 => ?_)
      · refine lv_iconst (v := 0) hx hb d_Md_down_34 (by decide) ?_
        refine lv_icmp_eq (tgt := 45) hx hb d_Md_down_35 (by decide) (fun c_7 => absurd c_7 (by decide)) (fun c_7 => ?_)
        refine lv_lload hx hb d_Md_down_38 (lv_at hl 0 rfl) ?_
        refine lv_lconst (v := 1) hx hb d_Md_down_40 (by decide) ?_
        refine lv_lsub hx hb d_Md_down_41 ?_
        refine lv_goto (tgt := 47) hx hb d_Md_down_42 (by decide) ?_
        exact W.lret (v := (a / b) - 1) hx hb hr (fun t ht hW => ⟨_, rfl, (if_pos ⟨c_1, (fun h => (Int64.not_lt.mpr c_6) (h.mp (Int64.not_le.mp c_2)))⟩).symm, ht⟩) (fun _ h => absurd h List.not_mem_nil) d_Md_down_47
      · refine lv_iconst (v := 1) hx hb d_Md_down_30 (by decide) ?_
        refine lv_goto (tgt := 35) hx hb d_Md_down_31 (by decide) ?_
        refine lv_icmp_eq (tgt := 45) hx hb d_Md_down_35 (by decide) (fun c_8 => ?_) (fun c_8 => absurd rfl c_8)
        refine lv_lload hx hb d_Md_down_45 (lv_at hl 0 rfl) ?_
        exact W.lret (v := a / b) hx hb hr (fun t ht hW => ⟨_, rfl, (if_neg (fun h => h.2 ⟨fun _ => (Int64.not_le.mp c_6), fun _ => (Int64.not_le.mp c_2)⟩)).symm, ht⟩) (fun _ h => absurd h List.not_mem_nil) d_Md_down_47
