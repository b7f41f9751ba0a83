set_option maxHeartbeats 4000000 in
set_option maxRecDepth 100000 in
theorem c_Wall_init (l : Launch) (D : va_G) (tys : List (ClassId × FieldType)) (q : Nat) (a1 a2 b1 b2 : Int32) (sz : Nat) : Met l y_Wall_init (.code y_Wall_init b_Wall_init 5 none :: BIG) { frames := 1, cells := 0, slots := 0, locals := 40 } (rf_Pc D tys [.ref q, .int a1, .int a2, .int b1, .int b2] (fun h => h.size = sz ∧ va_P D vwCl [(q, .inr (0, [.int 0, .int 0, .int 0, .int 0]))] h ∧ va_D (fun _ => True) [(q, .inr (0, [.int 0, .int 0, .int 0, .int 0]))])) (va_Qv (S := Unit) (fun _ => True) (fun u t => va_P D vwCl ([(q, e_W (a1, a2, b1, b2))]) t.heap ∧ va_D (va_A [(q, .inr (0, [.int 0, .int 0, .int 0, .int 0]))] sz) ([(q, e_W (a1, a2, b1, b2))])) (va_A [(q, .inr (0, [.int 0, .int 0, .int 0, .int 0]))] sz)) 0 0 (va_A [(q, .inr (0, [.int 0, .int 0, .int 0, .int 0]))] sz) := by
  refine Met.ofW (cc := b_Wall_init) (maxL := 5) (ret := none) (by decide) rfl ?_
  intro p e s m args below meth c s₁ B hml hv
  obtain ⟨rfl, hE, hP⟩ := hv
  have hx := B.exec
  have hb := B.bytes
  have hr := B.returns
  have hts : ∀ w ∈ BIG, w.before [.ref q, .int a1, .int a2, .int b1, .int b2].toArray s = true := fun w h => atoms_spec (ws := .code y_Wall_init b_Wall_init 5 none :: BIG) B.pre w (List.mem_cons_of_mem _ h)
  have hown : s.vm.findClass "RayField$Wall" = some m.cls := findClass_of_methodNamed B.named
  have hlocks := B.notSynchronized
  have hK := hE.2
  have S0 : CallFix p m c b_Wall_init 5 s [.ref q, .int a1, .int a2, .int b1, .int b2].toArray BIG "RayField$Wall" := ⟨hx, hb, hml, hown, hts⟩
  have hl := lv_entry ([.ref q, .int a1, .int a2, .int b1, .int b2]) (n := 5) (Nat.le_of_ble_eq_true rfl)
  rw [lg_entry_eq]
  generalize (lg_sl ([.ref q, .int a1, .int a2, .int b1, .int b2]) ++ List.replicate (5 - (lg_sl ([.ref q, .int a1, .int a2, .int b1, .int b2])).length) Slot.unset).toArray = ls at hl ⊢
  have hl : lv_has ls 5 [(0, .ref q), (1, .int a1), (2, .int a2), (3, .int b1), (4, .int b2)] := hl
  obtain ⟨hsz, hP, hD0⟩ := hP
  have hin : meth.name = "<init>" := (name_of_methodNamed B.named B.method).1
  subst hsz
  have hD := hD0.self (sz := s.heap.size)
  generalize hAe : va_A [(q, .inr (0, [.int 0, .int 0, .int 0, .int 0]))] s.heap.size = A at hD ⊢
  have hA : ∀ q : Nat, s.heap.size ≤ q → A q := fun q h => by rw [← hAe]; exact Or.inr h
  obtain ⟨H, hH⟩ : ∃ H : Heap, H = s.heap := ⟨_, rfl⟩
  refine rf_heap hH ?_
  have hS : va_S A s.heap H [] := by rw [hH]; exact va_S.rf
  have hP : va_P D vwCl [(q, .inr (0, [.int 0, .int 0, .int 0, .int 0]))] H := by rw [hH]; exact hP
  refine lv_aload_n hx hb d_Wall_init_0 rfl (lv_at hl 0 rfl) ?_
  refine W.objInit hx hb hown (hts _ w_56) (hts _ w_13) (hts _ w_14) rfl (by rw [hml]; exact hl.1) rfl d_Wall_init_1 (Nat.le_of_ble_eq_true rfl) (Nat.le_of_ble_eq_true rfl) ?_
  refine W.eq (g2 := F0 m 4 ls []) rfl ?_
  refine lv_aload_n hx hb d_Wall_init_4 rfl (lv_at hl 0 rfl) ?_
  refine lv_iload_n hx hb d_Wall_init_5 rfl (lv_at hl 1 rfl) ?_
  refine va_put (D := D) (ci := 0) (v := .int a1) (ty := .int) (C := "RayField$Wall") (T := F_Wall) (N := 4) hx hb hts in_Wall t_Wall tok_Wall nn_Wall hown hK hP hD hS 0 rfl rfl 0 (by decide) (hts _ w_57) (fun _ h9 => h9) rfl (by decide +kernel) rfl rfl (Nat.le_of_ble_eq_true rfl) d_Wall_init_6 (fun H locs hP hD hS => ?_)
  have hP : va_P D vwCl [(q, .inr (0, [.int a1, .int 0, .int 0, .int 0]))] H := hP
  have hD : va_D A [(q, .inr (0, [.int a1, .int 0, .int 0, .int 0]))] := hD
  refine lv_aload_n hx hb d_Wall_init_9 rfl (lv_at hl 0 rfl) ?_
  refine lv_iload_n hx hb d_Wall_init_10 rfl (lv_at hl 2 rfl) ?_
  refine va_put (D := D) (ci := 0) (v := .int a2) (ty := .int) (C := "RayField$Wall") (T := F_Wall) (N := 4) hx hb hts in_Wall t_Wall tok_Wall nn_Wall hown hK hP hD hS 0 rfl rfl 1 (by decide) (hts _ w_60) (fun _ h9 => h9) rfl (by decide +kernel) rfl rfl (Nat.le_of_ble_eq_true rfl) d_Wall_init_11 (fun H locs hP hD hS => ?_)
  have hP : va_P D vwCl [(q, .inr (0, [.int a1, .int a2, .int 0, .int 0]))] H := hP
  have hD : va_D A [(q, .inr (0, [.int a1, .int a2, .int 0, .int 0]))] := hD
  refine lv_aload_n hx hb d_Wall_init_14 rfl (lv_at hl 0 rfl) ?_
  refine lv_iload_n hx hb d_Wall_init_15 rfl (lv_at hl 3 rfl) ?_
  refine va_put (D := D) (ci := 0) (v := .int b1) (ty := .int) (C := "RayField$Wall") (T := F_Wall) (N := 4) hx hb hts in_Wall t_Wall tok_Wall nn_Wall hown hK hP hD hS 0 rfl rfl 2 (by decide) (hts _ w_63) (fun _ h9 => h9) rfl (by decide +kernel) rfl rfl (Nat.le_of_ble_eq_true rfl) d_Wall_init_16 (fun H locs hP hD hS => ?_)
  have hP : va_P D vwCl [(q, .inr (0, [.int a1, .int a2, .int b1, .int 0]))] H := hP
  have hD : va_D A [(q, .inr (0, [.int a1, .int a2, .int b1, .int 0]))] := hD
  refine lv_aload_n hx hb d_Wall_init_19 rfl (lv_at hl 0 rfl) ?_
  refine lv_iload hx hb d_Wall_init_20 (lv_at hl 4 rfl) ?_
  refine va_put (D := D) (ci := 0) (v := .int b2) (ty := .int) (C := "RayField$Wall") (T := F_Wall) (N := 4) hx hb hts in_Wall t_Wall tok_Wall nn_Wall hown hK hP hD hS 0 rfl rfl 3 (by decide) (hts _ w_66) (fun _ h9 => h9) rfl (by decide +kernel) rfl rfl (Nat.le_of_ble_eq_true rfl) d_Wall_init_22 (fun H locs hP hD hS => ?_)
  have hP : va_P D vwCl [(q, .inr (0, [.int a1, .int a2, .int b1, .int b2]))] H := hP
  have hD : va_D A [(q, .inr (0, [.int a1, .int a2, .int b1, .int b2]))] := hD
  exact W.vret hx hb hr (fun t ht hW => ⟨⟨(), rfl, trivial, by rw [ht]; exact hP, hD⟩, hS.F ht⟩) hS.2.2 d_Wall_init_25
set_option maxHeartbeats 4000000 in
set_option maxRecDepth 100000 in
theorem c_Ray_init (l : Launch) (D : va_G) (tys : List (ClassId × FieldType)) (q : Nat) (a1 a2 b1 b2 : Int32) (sz : Nat) : Met l y_Ray_init (.code y_Ray_init b_Ray_init 5 none :: BIG) { frames := 1, cells := 0, slots := 0, locals := 40 } (rf_Pc D tys [.ref q, .int a1, .int a2, .int b1, .int b2] (fun h => h.size = sz ∧ va_P D vwCl [(q, .inr (1, [.int 0, .int 0, .int 0, .int 0]))] h ∧ va_D (fun _ => True) [(q, .inr (1, [.int 0, .int 0, .int 0, .int 0]))])) (va_Qv (S := Unit) (fun _ => True) (fun u t => va_P D vwCl ([(q, e_R (a1, a2, b1, b2))]) t.heap ∧ va_D (va_A [(q, .inr (1, [.int 0, .int 0, .int 0, .int 0]))] sz) ([(q, e_R (a1, a2, b1, b2))])) (va_A [(q, .inr (1, [.int 0, .int 0, .int 0, .int 0]))] sz)) 0 0 (va_A [(q, .inr (1, [.int 0, .int 0, .int 0, .int 0]))] sz) := by
  refine Met.ofW (cc := b_Ray_init) (maxL := 5) (ret := none) (by decide) rfl ?_
  intro p e s m args below meth c s₁ B hml hv
  obtain ⟨rfl, hE, hP⟩ := hv
  have hx := B.exec
  have hb := B.bytes
  have hr := B.returns
  have hts : ∀ w ∈ BIG, w.before [.ref q, .int a1, .int a2, .int b1, .int b2].toArray s = true := fun w h => atoms_spec (ws := .code y_Ray_init b_Ray_init 5 none :: BIG) B.pre w (List.mem_cons_of_mem _ h)
  have hown : s.vm.findClass "RayField$Ray" = some m.cls := findClass_of_methodNamed B.named
  have hlocks := B.notSynchronized
  have hK := hE.2
  have S0 : CallFix p m c b_Ray_init 5 s [.ref q, .int a1, .int a2, .int b1, .int b2].toArray BIG "RayField$Ray" := ⟨hx, hb, hml, hown, hts⟩
  have hl := lv_entry ([.ref q, .int a1, .int a2, .int b1, .int b2]) (n := 5) (Nat.le_of_ble_eq_true rfl)
  rw [lg_entry_eq]
  generalize (lg_sl ([.ref q, .int a1, .int a2, .int b1, .int b2]) ++ List.replicate (5 - (lg_sl ([.ref q, .int a1, .int a2, .int b1, .int b2])).length) Slot.unset).toArray = ls at hl ⊢
  have hl : lv_has ls 5 [(0, .ref q), (1, .int a1), (2, .int a2), (3, .int b1), (4, .int b2)] := hl
  obtain ⟨hsz, hP, hD0⟩ := hP
  have hin : meth.name = "<init>" := (name_of_methodNamed B.named B.method).1
  subst hsz
  have hD := hD0.self (sz := s.heap.size)
  generalize hAe : va_A [(q, .inr (1, [.int 0, .int 0, .int 0, .int 0]))] s.heap.size = A at hD ⊢
  have hA : ∀ q : Nat, s.heap.size ≤ q → A q := fun q h => by rw [← hAe]; exact Or.inr h
  obtain ⟨H, hH⟩ : ∃ H : Heap, H = s.heap := ⟨_, rfl⟩
  refine rf_heap hH ?_
  have hS : va_S A s.heap H [] := by rw [hH]; exact va_S.rf
  have hP : va_P D vwCl [(q, .inr (1, [.int 0, .int 0, .int 0, .int 0]))] H := by rw [hH]; exact hP
  refine lv_aload_n hx hb d_Ray_init_0 rfl (lv_at hl 0 rfl) ?_
  refine W.objInit hx hb hown (hts _ w_197) (hts _ w_13) (hts _ w_14) rfl (by rw [hml]; exact hl.1) rfl d_Ray_init_1 (Nat.le_of_ble_eq_true rfl) (Nat.le_of_ble_eq_true rfl) ?_
  refine W.eq (g2 := F0 m 4 ls []) rfl ?_
  refine lv_aload_n hx hb d_Ray_init_4 rfl (lv_at hl 0 rfl) ?_
  refine lv_iload_n hx hb d_Ray_init_5 rfl (lv_at hl 1 rfl) ?_
  refine va_putF (D := D) (ci := 1) (v := .int a1) (ty := .int) (C := "RayField$Ray") (T := F_Ray) (N := 4) hx hb hts in_Ray t_Ray tok_Ray nn_Ray hown hK hP hD hS 0 rfl rfl 0 (by decide) (hts _ w_198) (fun _ h9 => h9) rfl hin rfl (by decide +kernel) rfl rfl (Nat.le_of_ble_eq_true rfl) d_Ray_init_6 (fun H locs hP hD hS => ?_)
  have hP : va_P D vwCl [(q, .inr (1, [.int a1, .int 0, .int 0, .int 0]))] H := hP
  have hD : va_D A [(q, .inr (1, [.int a1, .int 0, .int 0, .int 0]))] := hD
  refine lv_aload_n hx hb d_Ray_init_9 rfl (lv_at hl 0 rfl) ?_
  refine lv_iload_n hx hb d_Ray_init_10 rfl (lv_at hl 2 rfl) ?_
  refine va_putF (D := D) (ci := 1) (v := .int a2) (ty := .int) (C := "RayField$Ray") (T := F_Ray) (N := 4) hx hb hts in_Ray t_Ray tok_Ray nn_Ray hown hK hP hD hS 0 rfl rfl 1 (by decide) (hts _ w_200) (fun _ h9 => h9) rfl hin rfl (by decide +kernel) rfl rfl (Nat.le_of_ble_eq_true rfl) d_Ray_init_11 (fun H locs hP hD hS => ?_)
  have hP : va_P D vwCl [(q, .inr (1, [.int a1, .int a2, .int 0, .int 0]))] H := hP
  have hD : va_D A [(q, .inr (1, [.int a1, .int a2, .int 0, .int 0]))] := hD
  refine lv_aload_n hx hb d_Ray_init_14 rfl (lv_at hl 0 rfl) ?_
  refine lv_iload_n hx hb d_Ray_init_15 rfl (lv_at hl 3 rfl) ?_
  refine va_putF (D := D) (ci := 1) (v := .int b1) (ty := .int) (C := "RayField$Ray") (T := F_Ray) (N := 4) hx hb hts in_Ray t_Ray tok_Ray nn_Ray hown hK hP hD hS 0 rfl rfl 2 (by decide) (hts _ w_202) (fun _ h9 => h9) rfl hin rfl (by decide +kernel) rfl rfl (Nat.le_of_ble_eq_true rfl) d_Ray_init_16 (fun H locs hP hD hS => ?_)
  have hP : va_P D vwCl [(q, .inr (1, [.int a1, .int a2, .int b1, .int 0]))] H := hP
  have hD : va_D A [(q, .inr (1, [.int a1, .int a2, .int b1, .int 0]))] := hD
  refine lv_aload_n hx hb d_Ray_init_19 rfl (lv_at hl 0 rfl) ?_
  refine lv_iload hx hb d_Ray_init_20 (lv_at hl 4 rfl) ?_
  refine va_putF (D := D) (ci := 1) (v := .int b2) (ty := .int) (C := "RayField$Ray") (T := F_Ray) (N := 4) hx hb hts in_Ray t_Ray tok_Ray nn_Ray hown hK hP hD hS 0 rfl rfl 3 (by decide) (hts _ w_203) (fun _ h9 => h9) rfl hin rfl (by decide +kernel) rfl rfl (Nat.le_of_ble_eq_true rfl) d_Ray_init_22 (fun H locs hP hD hS => ?_)
  have hP : va_P D vwCl [(q, .inr (1, [.int a1, .int a2, .int b1, .int b2]))] H := hP
  have hD : va_D A [(q, .inr (1, [.int a1, .int a2, .int b1, .int b2]))] := hD
  exact W.vret hx hb hr (fun t ht hW => ⟨⟨(), rfl, trivial, by rw [ht]; exact hP, hD⟩, hS.F ht⟩) hS.2.2 d_Ray_init_25
set_option maxHeartbeats 4000000 in
set_option maxRecDepth 100000 in
theorem c_Meeting_init (l : Launch) (D : va_G) (tys : List (ClassId × FieldType)) (q : Nat) (sz : Nat) : Met l y_Meeting_init (.code y_Meeting_init b_Meeting_init 1 none :: BIG) { frames := 1, cells := 0, slots := 0, locals := 40 } (rf_Pc D tys [.ref q] (fun h => h.size = sz ∧ va_P D vwCl [(q, .inr (2, [.int 0, .int 0, .long 0, .long 0, .long 0]))] h ∧ va_D (fun _ => True) [(q, .inr (2, [.int 0, .int 0, .long 0, .long 0, .long 0]))])) (va_Qv (S := Unit) (fun _ => True) (fun u t => va_P D vwCl ([(q, e_M 0 0 0 0 0)]) t.heap ∧ va_D (va_A [(q, .inr (2, [.int 0, .int 0, .long 0, .long 0, .long 0]))] sz) ([(q, e_M 0 0 0 0 0)])) (va_A [(q, .inr (2, [.int 0, .int 0, .long 0, .long 0, .long 0]))] sz)) 0 0 (va_A [(q, .inr (2, [.int 0, .int 0, .long 0, .long 0, .long 0]))] sz) := by
  refine Met.ofW (cc := b_Meeting_init) (maxL := 1) (ret := none) (by decide) rfl ?_
  intro p e s m args below meth c s₁ B hml hv
  obtain ⟨rfl, hE, hP⟩ := hv
  have hx := B.exec
  have hb := B.bytes
  have hr := B.returns
  have hts : ∀ w ∈ BIG, w.before [.ref q].toArray s = true := fun w h => atoms_spec (ws := .code y_Meeting_init b_Meeting_init 1 none :: BIG) B.pre w (List.mem_cons_of_mem _ h)
  have hown : s.vm.findClass "RayField$Meeting" = some m.cls := findClass_of_methodNamed B.named
  have hlocks := B.notSynchronized
  have hK := hE.2
  have S0 : CallFix p m c b_Meeting_init 1 s [.ref q].toArray BIG "RayField$Meeting" := ⟨hx, hb, hml, hown, hts⟩
  have hl := lv_entry ([.ref q]) (n := 1) (Nat.le_of_ble_eq_true rfl)
  rw [lg_entry_eq]
  generalize (lg_sl ([.ref q]) ++ List.replicate (1 - (lg_sl ([.ref q])).length) Slot.unset).toArray = ls at hl ⊢
  have hl : lv_has ls 1 [(0, .ref q)] := hl
  obtain ⟨hsz, hP, hD0⟩ := hP
  have hin : meth.name = "<init>" := (name_of_methodNamed B.named B.method).1
  subst hsz
  have hD := hD0.self (sz := s.heap.size)
  generalize hAe : va_A [(q, .inr (2, [.int 0, .int 0, .long 0, .long 0, .long 0]))] s.heap.size = A at hD ⊢
  have hA : ∀ q : Nat, s.heap.size ≤ q → A q := fun q h => by rw [← hAe]; exact Or.inr h
  obtain ⟨H, hH⟩ : ∃ H : Heap, H = s.heap := ⟨_, rfl⟩
  refine rf_heap hH ?_
  have hS : va_S A s.heap H [] := by rw [hH]; exact va_S.rf
  have hP : va_P D vwCl [(q, .inr (2, [.int 0, .int 0, .long 0, .long 0, .long 0]))] H := by rw [hH]; exact hP
  refine lv_aload_n hx hb d_Meeting_init_0 rfl (lv_at hl 0 rfl) ?_
  refine W.objInit hx hb hown (hts _ w_126) (hts _ w_13) (hts _ w_14) rfl (by rw [hml]; exact hl.1) rfl d_Meeting_init_1 (Nat.le_of_ble_eq_true rfl) (Nat.le_of_ble_eq_true rfl) ?_
  refine W.eq (g2 := F0 m 4 ls []) rfl ?_
  exact W.vret hx hb hr (fun t ht hW => ⟨⟨(), rfl, trivial, by rw [ht]; exact hP, hD⟩, hS.F ht⟩) hS.2.2 d_Meeting_init_4
set_option maxHeartbeats 4000000 in
set_option maxRecDepth 100000 in
theorem c_Wall_exchange (l : Launch) (D : va_G) (tys : List (ClassId × FieldType)) (q : Nat) (w : Q4) (sz : Nat) : Met l y_Wall_exchangeEnds (.code y_Wall_exchangeEnds b_Wall_exchangeEnds 3 none :: BIG) { frames := 0, cells := 0, slots := 0, locals := 0 } (rf_Pc D tys [.ref q] (fun h => h.size = sz ∧ va_P D vwCl [(q, .inr (0, [.int w.1, .int w.2.1, .int w.2.2.1, .int w.2.2.2]))] h ∧ va_D (fun _ => True) [(q, .inr (0, [.int w.1, .int w.2.1, .int w.2.2.1, .int w.2.2.2]))])) (va_Qv (S := Unit) (fun _ => True) (fun u t => va_P D vwCl ([(q, e_W (w.2.2.1, w.2.2.2, w.1, w.2.1))]) t.heap ∧ va_D (va_A [(q, .inr (0, [.int w.1, .int w.2.1, .int w.2.2.1, .int w.2.2.2]))] sz) ([(q, e_W (w.2.2.1, w.2.2.2, w.1, w.2.1))])) (va_A [(q, .inr (0, [.int w.1, .int w.2.1, .int w.2.2.1, .int w.2.2.2]))] sz)) 0 0 (va_A [(q, .inr (0, [.int w.1, .int w.2.1, .int w.2.2.1, .int w.2.2.2]))] sz) := by
  refine Met.ofW (cc := b_Wall_exchangeEnds) (maxL := 3) (ret := none) (by decide) rfl ?_
  intro p e s m args below meth c s₁ B hml hv
  obtain ⟨rfl, hE, hP⟩ := hv
  have hx := B.exec
  have hb := B.bytes
  have hr := B.returns
  have hts : ∀ w ∈ BIG, w.before [.ref q].toArray s = true := fun w h => atoms_spec (ws := .code y_Wall_exchangeEnds b_Wall_exchangeEnds 3 none :: BIG) B.pre w (List.mem_cons_of_mem _ h)
  have hown : s.vm.findClass "RayField$Wall" = some m.cls := findClass_of_methodNamed B.named
  have hlocks := B.notSynchronized
  have hK := hE.2
  have S0 : CallFix p m c b_Wall_exchangeEnds 3 s [.ref q].toArray BIG "RayField$Wall" := ⟨hx, hb, hml, hown, hts⟩
  have hl := lv_entry ([.ref q]) (n := 3) (Nat.le_of_ble_eq_true rfl)
  rw [lg_entry_eq]
  generalize (lg_sl ([.ref q]) ++ List.replicate (3 - (lg_sl ([.ref q])).length) Slot.unset).toArray = ls at hl ⊢
  have hl : lv_has ls 3 [(0, .ref q)] := hl
  obtain ⟨hsz, hP, hD0⟩ := hP
  subst hsz
  have hD := hD0.self (sz := s.heap.size)
  generalize hAe : va_A [(q, .inr (0, [.int w.1, .int w.2.1, .int w.2.2.1, .int w.2.2.2]))] s.heap.size = A at hD ⊢
  have hA : ∀ q : Nat, s.heap.size ≤ q → A q := fun q h => by rw [← hAe]; exact Or.inr h
  obtain ⟨H, hH⟩ : ∃ H : Heap, H = s.heap := ⟨_, rfl⟩
  refine rf_heap hH ?_
  have hS : va_S A s.heap H [] := by rw [hH]; exact va_S.rf
  have hP : va_P D vwCl [(q, .inr (0, [.int w.1, .int w.2.1, .int w.2.2.1, .int w.2.2.2]))] H := by rw [hH]; exact hP
  refine lv_aload_n hx hb d_Wall_exchangeEnds_0 rfl (lv_at hl 0 rfl) ?_
  refine va_get (D := D) (ci := 0) (v := .int w.1) (C := "RayField$Wall") (T := F_Wall) (N := 4) hx hb hts in_Wall hown hK hP 0 rfl rfl 0 (by decide) (hts _ w_57) (fun _ h9 => h9) rfl d_Wall_exchangeEnds_1 ?_
  refine lv_istore_n (lv' := [(1, .int w.1), (0, .ref q)]) hx hb d_Wall_exchangeEnds_4 rfl hl (by decide) rfl (fun ls hl => ?_)
  refine lv_aload_n hx hb d_Wall_exchangeEnds_5 rfl (lv_at hl 1 rfl) ?_
  refine va_get (D := D) (ci := 0) (v := .int w.2.1) (C := "RayField$Wall") (T := F_Wall) (N := 4) hx hb hts in_Wall hown hK hP 0 rfl rfl 1 (by decide) (hts _ w_60) (fun _ h9 => h9) rfl d_Wall_exchangeEnds_6 ?_
  refine lv_istore_n (lv' := [(2, .int w.2.1), (1, .int w.1), (0, .ref q)]) hx hb d_Wall_exchangeEnds_9 rfl hl (by decide) rfl (fun ls hl => ?_)
  refine lv_aload_n hx hb d_Wall_exchangeEnds_10 rfl (lv_at hl 2 rfl) ?_
  refine lv_aload_n hx hb d_Wall_exchangeEnds_11 rfl (lv_at hl 2 rfl) ?_
  refine va_get (D := D) (ci := 0) (v := .int w.2.2.1) (C := "RayField$Wall") (T := F_Wall) (N := 4) hx hb hts in_Wall hown hK hP 0 rfl rfl 2 (by decide) (hts _ w_63) (fun _ h9 => h9) rfl d_Wall_exchangeEnds_12 ?_
  refine va_put (D := D) (ci := 0) (v := .int w.2.2.1) (ty := .int) (C := "RayField$Wall") (T := F_Wall) (N := 4) hx hb hts in_Wall t_Wall tok_Wall nn_Wall hown hK hP hD hS 0 rfl rfl 0 (by decide) (hts _ w_57) (fun _ h9 => h9) rfl (by decide +kernel) rfl rfl (Nat.le_of_ble_eq_true rfl) d_Wall_exchangeEnds_15 (fun H locs hP hD hS => ?_)
  have hP : va_P D vwCl [(q, .inr (0, [.int w.2.2.1, .int w.2.1, .int w.2.2.1, .int w.2.2.2]))] H := hP
  have hD : va_D A [(q, .inr (0, [.int w.2.2.1, .int w.2.1, .int w.2.2.1, .int w.2.2.2]))] := hD
  refine lv_aload_n hx hb d_Wall_exchangeEnds_18 rfl (lv_at hl 2 rfl) ?_
  refine lv_aload_n hx hb d_Wall_exchangeEnds_19 rfl (lv_at hl 2 rfl) ?_
  refine va_get (D := D) (ci := 0) (v := .int w.2.2.2) (C := "RayField$Wall") (T := F_Wall) (N := 4) hx hb hts in_Wall hown hK hP 0 rfl rfl 3 (by decide) (hts _ w_66) (fun _ h9 => h9) rfl d_Wall_exchangeEnds_20 ?_
  refine va_put (D := D) (ci := 0) (v := .int w.2.2.2) (ty := .int) (C := "RayField$Wall") (T := F_Wall) (N := 4) hx hb hts in_Wall t_Wall tok_Wall nn_Wall hown hK hP hD hS 0 rfl rfl 1 (by decide) (hts _ w_60) (fun _ h9 => h9) rfl (by decide +kernel) rfl rfl (Nat.le_of_ble_eq_true rfl) d_Wall_exchangeEnds_23 (fun H locs hP hD hS => ?_)
  have hP : va_P D vwCl [(q, .inr (0, [.int w.2.2.1, .int w.2.2.2, .int w.2.2.1, .int w.2.2.2]))] H := hP
  have hD : va_D A [(q, .inr (0, [.int w.2.2.1, .int w.2.2.2, .int w.2.2.1, .int w.2.2.2]))] := hD
  refine lv_aload_n hx hb d_Wall_exchangeEnds_26 rfl (lv_at hl 2 rfl) ?_
  refine lv_iload_n hx hb d_Wall_exchangeEnds_27 rfl (lv_at hl 1 rfl) ?_
  refine va_put (D := D) (ci := 0) (v := .int w.1) (ty := .int) (C := "RayField$Wall") (T := F_Wall) (N := 4) hx hb hts in_Wall t_Wall tok_Wall nn_Wall hown hK hP hD hS 0 rfl rfl 2 (by decide) (hts _ w_63) (fun _ h9 => h9) rfl (by decide +kernel) rfl rfl (Nat.le_of_ble_eq_true rfl) d_Wall_exchangeEnds_28 (fun H locs hP hD hS => ?_)
  have hP : va_P D vwCl [(q, .inr (0, [.int w.2.2.1, .int w.2.2.2, .int w.1, .int w.2.2.2]))] H := hP
  have hD : va_D A [(q, .inr (0, [.int w.2.2.1, .int w.2.2.2, .int w.1, .int w.2.2.2]))] := hD
  refine lv_aload_n hx hb d_Wall_exchangeEnds_31 rfl (lv_at hl 2 rfl) ?_
  refine lv_iload_n hx hb d_Wall_exchangeEnds_32 rfl (lv_at hl 0 rfl) ?_
  refine va_put (D := D) (ci := 0) (v := .int w.2.1) (ty := .int) (C := "RayField$Wall") (T := F_Wall) (N := 4) hx hb hts in_Wall t_Wall tok_Wall nn_Wall hown hK hP hD hS 0 rfl rfl 3 (by decide) (hts _ w_66) (fun _ h9 => h9) rfl (by decide +kernel) rfl rfl (Nat.le_of_ble_eq_true rfl) d_Wall_exchangeEnds_33 (fun H locs hP hD hS => ?_)
  have hP : va_P D vwCl [(q, .inr (0, [.int w.2.2.1, .int w.2.2.2, .int w.1, .int w.2.1]))] H := hP
  have hD : va_D A [(q, .inr (0, [.int w.2.2.1, .int w.2.2.2, .int w.1, .int w.2.1]))] := hD
  exact W.vret hx hb hr (fun t ht hW => ⟨⟨(), rfl, trivial, by rw [ht]; exact hP, hD⟩, hS.F ht⟩) hS.2.2 d_Wall_exchangeEnds_36
set_option maxHeartbeats 4000000 in
set_option maxRecDepth 100000 in
theorem c_Meeting_fill (l : Launch) (D : va_G) (tys : List (ClassId × FieldType)) (q q2 q3 : Nat) (n1 f1 : Int32) (d1 a1 v1 : Int64) (w ra : Q4) (nu : Int32) (sz : Nat) : Met l y_Meeting_fill (.code y_Meeting_fill b_Meeting_fill 12 (some (.boolean)) :: BIG) { frames := 2, cells := 0, slots := 0, locals := 80 } (rf_Pc D tys [.ref q, .int nu, .ref q2, .ref q3] (fun h => h.size = sz ∧ va_P D vwCl [(q, .inr (2, [.int n1, .int f1, .long d1, .long a1, .long v1])), (q2, .inr (0, [.int w.1, .int w.2.1, .int w.2.2.1, .int w.2.2.2])), (q3, .inr (1, [.int ra.1, .int ra.2.1, .int ra.2.2.1, .int ra.2.2.2]))] h ∧ va_D (fun _ => True) [(q, .inr (2, [.int n1, .int f1, .long d1, .long a1, .long v1])), (q2, .inr (0, [.int w.1, .int w.2.1, .int w.2.2.1, .int w.2.2.2])), (q3, .inr (1, [.int ra.1, .int ra.2.1, .int ra.2.2.1, .int ra.2.2.2]))])) (va_Qi (S := va_E) (fun r u => rf_tf r (m_met w ra) ∧ (m_met w ra → u = e_M nu (m_fr w ra) (m_abs (m_p w ra)) (m_abs (m_a w ra)) (m_abs (m_q w ra))) ∧ (¬ m_met w ra → u = e_M n1 f1 d1 a1 v1)) (fun u t => va_P D vwCl ([(q, u), (q2, e_W w), (q3, e_R ra)]) t.heap ∧ va_D (va_A [(q, .inr (2, [.int n1, .int f1, .long d1, .long a1, .long v1])), (q2, .inr (0, [.int w.1, .int w.2.1, .int w.2.2.1, .int w.2.2.2])), (q3, .inr (1, [.int ra.1, .int ra.2.1, .int ra.2.2.1, .int ra.2.2.2]))] sz) ([(q, u), (q2, e_W w), (q3, e_R ra)])) (va_A [(q, .inr (2, [.int n1, .int f1, .long d1, .long a1, .long v1])), (q2, .inr (0, [.int w.1, .int w.2.1, .int w.2.2.1, .int w.2.2.2])), (q3, .inr (1, [.int ra.1, .int ra.2.1, .int ra.2.2.1, .int ra.2.2.2]))] sz)) 0 0 (va_A [(q, .inr (2, [.int n1, .int f1, .long d1, .long a1, .long v1])), (q2, .inr (0, [.int w.1, .int w.2.1, .int w.2.2.1, .int w.2.2.2])), (q3, .inr (1, [.int ra.1, .int ra.2.1, .int ra.2.2.1, .int ra.2.2.2]))] sz) := by
  refine Met.ofW (cc := b_Meeting_fill) (maxL := 12) (ret := (some (.boolean))) (by decide) rfl ?_
  intro p e s m args below meth c s₁ B hml hv
  obtain ⟨rfl, hE, hP⟩ := hv
  have hx := B.exec
  have hb := B.bytes
  have hr := B.returns
  have hts : ∀ w ∈ BIG, w.before [.ref q, .int nu, .ref q2, .ref q3].toArray s = true := fun w h => atoms_spec (ws := .code y_Meeting_fill b_Meeting_fill 12 (some (.boolean)) :: BIG) B.pre w (List.mem_cons_of_mem _ h)
  have hown : s.vm.findClass "RayField$Meeting" = some m.cls := findClass_of_methodNamed B.named
  have hlocks := B.notSynchronized
  have hK := hE.2
  have S0 : CallFix p m c b_Meeting_fill 12 s [.ref q, .int nu, .ref q2, .ref q3].toArray BIG "RayField$Meeting" := ⟨hx, hb, hml, hown, hts⟩
  have hl := lv_entry ([.ref q, .int nu, .ref q2, .ref q3]) (n := 12) (Nat.le_of_ble_eq_true rfl)
  rw [lg_entry_eq]
  generalize (lg_sl ([.ref q, .int nu, .ref q2, .ref q3]) ++ List.replicate (12 - (lg_sl ([.ref q, .int nu, .ref q2, .ref q3])).length) Slot.unset).toArray = ls at hl ⊢
  have hl : lv_has ls 12 [(0, .ref q), (1, .int nu), (2, .ref q2), (3, .ref q3)] := hl
  obtain ⟨hsz, hP, hD0⟩ := hP
  subst hsz
  have hD := hD0.self (sz := s.heap.size)
  generalize hAe : va_A [(q, .inr (2, [.int n1, .int f1, .long d1, .long a1, .long v1])), (q2, .inr (0, [.int w.1, .int w.2.1, .int w.2.2.1, .int w.2.2.2])), (q3, .inr (1, [.int ra.1, .int ra.2.1, .int ra.2.2.1, .int ra.2.2.2]))] s.heap.size = A at hD ⊢
  have hA : ∀ q : Nat, s.heap.size ≤ q → A q := fun q h => by rw [← hAe]; exact Or.inr h
  obtain ⟨H, hH⟩ : ∃ H : Heap, H = s.heap := ⟨_, rfl⟩
  refine rf_heap hH ?_
  have hS : va_S A s.heap H [] := by rw [hH]; exact va_S.rf
  have hP : va_P D vwCl [(q, .inr (2, [.int n1, .int f1, .long d1, .long a1, .long v1])), (q2, .inr (0, [.int w.1, .int w.2.1, .int w.2.2.1, .int w.2.2.2])), (q3, .inr (1, [.int ra.1, .int ra.2.1, .int ra.2.2.1, .int ra.2.2.2]))] H := by rw [hH]; exact hP
  refine lv_aload_n hx hb d_Meeting_fill_0 rfl (lv_at hl 3 rfl) ?_
  refine lv_aload_n hx hb d_Meeting_fill_1 rfl (lv_at hl 2 rfl) ?_
  refine va_getN (D := D) (ci := 0) (v := .int w.1) (C := "RayField$Wall") (T := F_Wall) (N := 4) hx hb hts in_Wall hown hK hP 1 rfl rfl 0 (by decide) (va_Nw.use rfl (hE.1.1 _ w_58 rfl)) (fun _ h9 => h9) rfl d_Meeting_fill_2 ?_
  refine lv_aload_n hx hb d_Meeting_fill_5 rfl (lv_at hl 2 rfl) ?_
  refine va_getN (D := D) (ci := 0) (v := .int w.2.1) (C := "RayField$Wall") (T := F_Wall) (N := 4) hx hb hts in_Wall hown hK hP 1 rfl rfl 1 (by decide) (va_Nw.use rfl (hE.1.1 _ w_61 rfl)) (fun _ h9 => h9) rfl d_Meeting_fill_6 ?_
  refine vp_callSl (va_Run.run (rf_runV (As := [.int w.1, .int w.2.1]) (rest := []) S0 ml_Meeting_18 (c_Ray_side l D tys q3 ra w.1 w.2.1) hE (va_recv hK hP (ci := 1) (q0 := 2) rfl rfl) (hP.sub [2] rfl) ⟨rfl, rfl, Nat.le_of_ble_eq_true rfl, Nat.le_of_ble_eq_true rfl⟩ rfl hl.1 rfl (Nat.le_of_ble_eq_true rfl) d_Meeting_fill_9 ⟨Nat.zero_le _, Nat.zero_le _⟩)) (fun r_1 h_2 => ?_)
  subst h_2
  refine lv_lstore (lv' := [(4, .long (m_rside ra w.1 w.2.1)), (0, .ref q), (1, .int nu), (2, .ref q2), (3, .ref q3)]) hx hb d_Meeting_fill_12 hl (by decide) rfl (fun ls hl => ?_)
  refine lv_aload_n hx hb d_Meeting_fill_14 rfl (lv_at hl 4 rfl) ?_
  refine lv_aload_n hx hb d_Meeting_fill_15 rfl (lv_at hl 3 rfl) ?_
  refine va_getN (D := D) (ci := 0) (v := .int w.2.2.1) (C := "RayField$Wall") (T := F_Wall) (N := 4) hx hb hts in_Wall hown hK hP 1 rfl rfl 2 (by decide) (va_Nw.use rfl (hE.1.1 _ w_64 rfl)) (fun _ h9 => h9) rfl d_Meeting_fill_16 ?_
  refine lv_aload_n hx hb d_Meeting_fill_19 rfl (lv_at hl 3 rfl) ?_
  refine va_getN (D := D) (ci := 0) (v := .int w.2.2.2) (C := "RayField$Wall") (T := F_Wall) (N := 4) hx hb hts in_Wall hown hK hP 1 rfl rfl 3 (by decide) (va_Nw.use rfl (hE.1.1 _ w_67 rfl)) (fun _ h9 => h9) rfl d_Meeting_fill_20 ?_
  refine vp_callSl (va_Run.run (rf_runV (As := [.int w.2.2.1, .int w.2.2.2]) (rest := []) S0 ml_Meeting_18 (c_Ray_side l D tys q3 ra w.2.2.1 w.2.2.2) hE (va_recv hK hP (ci := 1) (q0 := 2) rfl rfl) (hP.sub [2] rfl) ⟨rfl, rfl, Nat.le_of_ble_eq_true rfl, Nat.le_of_ble_eq_true rfl⟩ rfl hl.1 rfl (Nat.le_of_ble_eq_true rfl) d_Meeting_fill_23 ⟨Nat.zero_le _, Nat.zero_le _⟩)) (fun r_3 h_4 => ?_)
  subst h_4
  refine lv_lstore (lv' := [(6, .long (m_rside ra w.2.2.1 w.2.2.2)), (4, .long (m_rside ra w.1 w.2.1)), (0, .ref q), (1, .int nu), (2, .ref q2), (3, .ref q3)]) hx hb d_Meeting_fill_26 hl (by decide) rfl (fun ls hl => ?_)
  refine rf_joinU 57 [] (¬ (m_a w ra < 0 ↔ m_b w ra < 0)) (fun hX => ?_) (fun J57 => ?_)
  · refine lv_aload_n hx hb d_Meeting_fill_57 rfl (lv_at hl 4 rfl) ?_
    refine lv_aload_n hx hb d_Meeting_fill_58 rfl (lv_at hl 5 rfl) ?_
    refine va_getN (D := D) (ci := 1) (v := .int ra.1) (C := "RayField$Ray") (T := F_Ray) (N := 4) hx hb hts in_Ray hown hK hP 2 rfl rfl 0 (by decide) (va_Nw.use rfl (hE.1.1 _ w_199 rfl)) (fun _ h9 => h9) rfl d_Meeting_fill_59 ?_
    refine lv_aload_n hx hb d_Meeting_fill_62 rfl (lv_at hl 5 rfl) ?_
    refine va_getN (D := D) (ci := 1) (v := .int ra.2.1) (C := "RayField$Ray") (T := F_Ray) (N := 4) hx hb hts in_Ray hown hK hP 2 rfl rfl 1 (by decide) (va_Nw.use rfl (hE.1.1 _ w_201 rfl)) (fun _ h9 => h9) rfl d_Meeting_fill_63 ?_
    refine vp_callSl (va_Run.run (rf_runV (As := [.int ra.1, .int ra.2.1]) (rest := []) S0 ml_Meeting_36 (c_Wall_side l D tys q2 w ra.1 ra.2.1) hE (va_recv hK hP (ci := 0) (q0 := 1) rfl rfl) (hP.sub [1] rfl) ⟨rfl, rfl, Nat.le_of_ble_eq_true rfl, Nat.le_of_ble_eq_true rfl⟩ rfl hl.1 rfl (Nat.le_of_ble_eq_true rfl) d_Meeting_fill_66 ⟨Nat.zero_le _, Nat.zero_le _⟩)) (fun r_5 h_6 => ?_)
    subst h_6
    refine lv_lstore (lv' := [(8, .long (m_side w ra.1 ra.2.1)), (6, .long (m_rside ra w.2.2.1 w.2.2.2)), (4, .long (m_rside ra w.1 w.2.1)), (0, .ref q), (1, .int nu), (2, .ref q2), (3, .ref q3)]) hx hb d_Meeting_fill_69 hl (by decide) rfl (fun ls hl => ?_)
    refine lv_lload hx hb d_Meeting_fill_71 (lv_at hl 1 rfl) ?_
    refine lv_lload hx hb d_Meeting_fill_73 (lv_at hl 2 rfl) ?_
    refine lv_lsub hx hb d_Meeting_fill_75 ?_
    refine lv_lstore (lv' := [(10, .long ((m_rside ra w.2.2.1 w.2.2.2) - (m_rside ra w.1 w.2.1))), (8, .long (m_side w ra.1 ra.2.1)), (6, .long (m_rside ra w.2.2.1 w.2.2.2)), (4, .long (m_rside ra w.1 w.2.1)), (0, .ref q), (1, .int nu), (2, .ref q2), (3, .ref q3)]) hx hb d_Meeting_fill_76 hl (by decide) rfl (fun ls hl => ?_)
    refine lv_lload hx hb d_Meeting_fill_78 (lv_at hl 1 rfl) ?_
    refine lv_lconst (v := 0) hx hb d_Meeting_fill_80 (by decide) ?_
    refine rf_lcmp_eq (tgt := 112) hx hb d_Meeting_fill_81 d_Meeting_fill_82 (by decide) (fun c_7 => ?_) (fun c_7 => ?_)
    · refine lv_iconst (v := 0) hx hb d_Meeting_fill_112 (by decide) ?_
      exact W.zret (v := 0) (ty := .boolean) hx hb hr rfl (fun t ht hW => ⟨⟨_, _, rfl, ⟨rf_F (fun h => h.2.1 c_7), fun h => absurd h (fun h => h.2.1 c_7), fun _ => rfl⟩, by rw [ht]; exact hP, hD⟩, hS.F ht⟩) hS.2.2 d_Meeting_fill_113
    · refine lv_lload hx hb d_Meeting_fill_85 (lv_at hl 1 rfl) ?_
      refine lv_lconst (v := 0) hx hb d_Meeting_fill_87 (by decide) ?_
      refine rf_lcmp_ge (tgt := 96) hx hb d_Meeting_fill_88 d_Meeting_fill_89 (by decide) (fun c_8 => ?_) (fun c_8 => ?_)
      · refine lv_iconst (v := 0) hx hb d_Meeting_fill_96 (by decide) ?_
        refine lv_lload hx hb d_Meeting_fill_97 (lv_at hl 0 rfl) ?_
        refine lv_lconst (v := 0) hx hb d_Meeting_fill_99 (by decide) ?_
        refine rf_lcmp_ge (tgt := 108) hx hb d_Meeting_fill_100 d_Meeting_fill_101 (by decide) (fun c_9 => ?_) (fun c_9 => ?_)
        · refine lv_iconst (v := 0) hx hb d_Meeting_fill_108 (by decide) ?_
          refine lv_icmp_eq (tgt := 114) hx hb d_Meeting_fill_109 (by decide) (fun c_10 => ?_) (fun c_10 => absurd rfl c_10)
          have hmet : m_met w ra := ⟨hX, c_7, ⟨fun h => absurd h (Int64.not_lt.mpr c_8), fun h => absurd h (Int64.not_lt.mpr c_9)⟩⟩
          refine lv_aload_n hx hb d_Meeting_fill_114 rfl (lv_at hl 4 rfl) ?_
          refine lv_iload_n hx hb d_Meeting_fill_115 rfl (lv_at hl 5 rfl) ?_
          refine va_put (D := D) (ci := 2) (v := .int nu) (ty := .int) (C := "RayField$Meeting") (T := F_Meeting) (N := 5) hx hb hts in_Meeting t_Meeting tok_Meeting nn_Meeting hown hK hP hD hS 0 rfl rfl 0 (by decide) (hts _ w_127) (fun _ h9 => h9) rfl (by decide +kernel) rfl rfl (Nat.le_of_ble_eq_true rfl) d_Meeting_fill_116 (fun H locs hP hD hS => ?_)
          have hP : va_P D vwCl [(q, .inr (2, [.int nu, .int f1, .long d1, .long a1, .long v1])), (q2, .inr (0, [.int w.1, .int w.2.1, .int w.2.2.1, .int w.2.2.2])), (q3, .inr (1, [.int ra.1, .int ra.2.1, .int ra.2.2.1, .int ra.2.2.2]))] H := hP
          have hD : va_D A [(q, .inr (2, [.int nu, .int f1, .long d1, .long a1, .long v1])), (q2, .inr (0, [.int w.1, .int w.2.1, .int w.2.2.1, .int w.2.2.2])), (q3, .inr (1, [.int ra.1, .int ra.2.1, .int ra.2.2.1, .int ra.2.2.2]))] := hD
          refine lv_aload_n hx hb d_Meeting_fill_119 rfl (lv_at hl 4 rfl) ?_
          refine lv_lload hx hb d_Meeting_fill_120 (lv_at hl 1 rfl) ?_
          refine lv_lconst (v := 0) hx hb d_Meeting_fill_122 (by decide) ?_
          refine rf_lcmp_ge (tgt := 131) hx hb d_Meeting_fill_123 d_Meeting_fill_124 (by decide) (fun c_11 => ?_) (fun c_11 => absurd (Int64.not_le.mp c_11) (Int64.not_lt.mpr c_8))
          refine lv_iconst (v := 0) hx hb d_Meeting_fill_131 (by decide) ?_
          refine va_put (D := D) (ci := 2) (v := .int 0) (ty := .boolean) (C := "RayField$Meeting") (T := F_Meeting) (N := 5) hx hb hts in_Meeting t_Meeting tok_Meeting nn_Meeting hown hK hP hD hS 0 rfl rfl 1 (by decide) (hts _ w_129) (fun _ h9 => h9) rfl (by decide +kernel) rfl rfl (Nat.le_of_ble_eq_true rfl) d_Meeting_fill_132 (fun H locs hP hD hS => ?_)
          have hP : va_P D vwCl [(q, .inr (2, [.int nu, .int 0, .long d1, .long a1, .long v1])), (q2, .inr (0, [.int w.1, .int w.2.1, .int w.2.2.1, .int w.2.2.2])), (q3, .inr (1, [.int ra.1, .int ra.2.1, .int ra.2.2.1, .int ra.2.2.2]))] H := hP
          have hD : va_D A [(q, .inr (2, [.int nu, .int 0, .long d1, .long a1, .long v1])), (q2, .inr (0, [.int w.1, .int w.2.1, .int w.2.2.1, .int w.2.2.2])), (q3, .inr (1, [.int ra.1, .int ra.2.1, .int ra.2.2.1, .int ra.2.2.2]))] := hD
          refine lv_aload_n hx hb d_Meeting_fill_135 rfl (lv_at hl 4 rfl) ?_
          refine lv_lload hx hb d_Meeting_fill_136 (lv_at hl 1 rfl) ?_
          refine va_mabs_long hx hb (hml.trans hl.1.symm) hown (hts _ w_157) (hts _ w_158) (hts _ w_4) (hts _ w_159) (Nat.le_of_ble_eq_true rfl) (Nat.le_of_ble_eq_true rfl) (Nat.zero_le _) (Nat.zero_le _) d_Meeting_fill_138 ?_
          refine rf_topl (y := m_abs (m_side w ra.1 ra.2.1)) rfl ?_
          refine va_put (D := D) (ci := 2) (v := .long (m_abs (m_side w ra.1 ra.2.1))) (ty := .long) (C := "RayField$Meeting") (T := F_Meeting) (N := 5) hx hb hts in_Meeting t_Meeting tok_Meeting nn_Meeting hown hK hP hD hS 0 rfl rfl 2 (by decide) (hts _ w_131) (fun _ h9 => h9) rfl (by decide +kernel) rfl rfl (Nat.le_of_ble_eq_true rfl) d_Meeting_fill_141 (fun H locs hP hD hS => ?_)
          have hP : va_P D vwCl [(q, .inr (2, [.int nu, .int 0, .long (m_abs (m_side w ra.1 ra.2.1)), .long a1, .long v1])), (q2, .inr (0, [.int w.1, .int w.2.1, .int w.2.2.1, .int w.2.2.2])), (q3, .inr (1, [.int ra.1, .int ra.2.1, .int ra.2.2.1, .int ra.2.2.2]))] H := hP
          have hD : va_D A [(q, .inr (2, [.int nu, .int 0, .long (m_abs (m_side w ra.1 ra.2.1)), .long a1, .long v1])), (q2, .inr (0, [.int w.1, .int w.2.1, .int w.2.2.1, .int w.2.2.2])), (q3, .inr (1, [.int ra.1, .int ra.2.1, .int ra.2.2.1, .int ra.2.2.2]))] := hD
          refine lv_aload_n hx hb d_Meeting_fill_144 rfl (lv_at hl 4 rfl) ?_
          refine lv_lload hx hb d_Meeting_fill_145 (lv_at hl 3 rfl) ?_
          refine va_mabs_long hx hb (hml.trans hl.1.symm) hown (hts _ w_157) (hts _ w_158) (hts _ w_4) (hts _ w_159) (Nat.le_of_ble_eq_true rfl) (Nat.le_of_ble_eq_true rfl) (Nat.zero_le _) (Nat.zero_le _) d_Meeting_fill_147 ?_
          refine rf_topl (y := m_abs (m_rside ra w.1 w.2.1)) rfl ?_
          refine va_put (D := D) (ci := 2) (v := .long (m_abs (m_rside ra w.1 w.2.1))) (ty := .long) (C := "RayField$Meeting") (T := F_Meeting) (N := 5) hx hb hts in_Meeting t_Meeting tok_Meeting nn_Meeting hown hK hP hD hS 0 rfl rfl 3 (by decide) (hts _ w_133) (fun _ h9 => h9) rfl (by decide +kernel) rfl rfl (Nat.le_of_ble_eq_true rfl) d_Meeting_fill_150 (fun H locs hP hD hS => ?_)
          have hP : va_P D vwCl [(q, .inr (2, [.int nu, .int 0, .long (m_abs (m_side w ra.1 ra.2.1)), .long (m_abs (m_rside ra w.1 w.2.1)), .long v1])), (q2, .inr (0, [.int w.1, .int w.2.1, .int w.2.2.1, .int w.2.2.2])), (q3, .inr (1, [.int ra.1, .int ra.2.1, .int ra.2.2.1, .int ra.2.2.2]))] H := hP
          have hD : va_D A [(q, .inr (2, [.int nu, .int 0, .long (m_abs (m_side w ra.1 ra.2.1)), .long (m_abs (m_rside ra w.1 w.2.1)), .long v1])), (q2, .inr (0, [.int w.1, .int w.2.1, .int w.2.2.1, .int w.2.2.2])), (q3, .inr (1, [.int ra.1, .int ra.2.1, .int ra.2.2.1, .int ra.2.2.2]))] := hD
          refine lv_aload_n hx hb d_Meeting_fill_153 rfl (lv_at hl 4 rfl) ?_
          refine lv_lload hx hb d_Meeting_fill_154 (lv_at hl 0 rfl) ?_
          refine va_mabs_long hx hb (hml.trans hl.1.symm) hown (hts _ w_157) (hts _ w_158) (hts _ w_4) (hts _ w_159) (Nat.le_of_ble_eq_true rfl) (Nat.le_of_ble_eq_true rfl) (Nat.zero_le _) (Nat.zero_le _) d_Meeting_fill_156 ?_
          refine rf_topl (y := m_abs ((m_rside ra w.2.2.1 w.2.2.2) - (m_rside ra w.1 w.2.1))) rfl ?_
          refine va_put (D := D) (ci := 2) (v := .long (m_abs ((m_rside ra w.2.2.1 w.2.2.2) - (m_rside ra w.1 w.2.1)))) (ty := .long) (C := "RayField$Meeting") (T := F_Meeting) (N := 5) hx hb hts in_Meeting t_Meeting tok_Meeting nn_Meeting hown hK hP hD hS 0 rfl rfl 4 (by decide) (hts _ w_135) (fun _ h9 => h9) rfl (by decide +kernel) rfl rfl (Nat.le_of_ble_eq_true rfl) d_Meeting_fill_159 (fun H locs hP hD hS => ?_)
          have hP : va_P D vwCl [(q, .inr (2, [.int nu, .int 0, .long (m_abs (m_side w ra.1 ra.2.1)), .long (m_abs (m_rside ra w.1 w.2.1)), .long (m_abs ((m_rside ra w.2.2.1 w.2.2.2) - (m_rside ra w.1 w.2.1)))])), (q2, .inr (0, [.int w.1, .int w.2.1, .int w.2.2.1, .int w.2.2.2])), (q3, .inr (1, [.int ra.1, .int ra.2.1, .int ra.2.2.1, .int ra.2.2.2]))] H := hP
          have hD : va_D A [(q, .inr (2, [.int nu, .int 0, .long (m_abs (m_side w ra.1 ra.2.1)), .long (m_abs (m_rside ra w.1 w.2.1)), .long (m_abs ((m_rside ra w.2.2.1 w.2.2.2) - (m_rside ra w.1 w.2.1)))])), (q2, .inr (0, [.int w.1, .int w.2.1, .int w.2.2.1, .int w.2.2.2])), (q3, .inr (1, [.int ra.1, .int ra.2.1, .int ra.2.2.1, .int ra.2.2.2]))] := hD
          refine lv_iconst (v := 1) hx hb d_Meeting_fill_162 (by decide) ?_
          exact W.zret (v := 1) (ty := .boolean) hx hb hr rfl (fun t ht hW => ⟨⟨_, _, rfl, ⟨rf_T hmet, fun _ => by rw [show m_fr w ra = 0 from (if_neg (Int64.not_lt.mpr c_11))]; first | done | rfl, fun h => absurd hmet h⟩, by rw [ht]; exact hP, hD⟩, hS.F ht⟩) hS.2.2 d_Meeting_fill_163
        · refine lv_iconst (v := 1) hx hb d_Meeting_fill_104 (by decide) ?_
          refine lv_goto (tgt := 109) hx hb d_Meeting_fill_105 (by decide) ?_
          refine lv_icmp_eq (tgt := 114) hx hb d_Meeting_fill_109 (by decide) (fun c_12 => absurd c_12 (by decide)) (fun c_12 => ?_)
          refine lv_iconst (v := 0) hx hb d_Meeting_fill_112 (by decide) ?_
          exact W.zret (v := 0) (ty := .boolean) hx hb hr rfl (fun t ht hW => ⟨⟨_, _, rfl, ⟨rf_F (fun h => (Int64.not_lt.mpr c_8) (h.2.2.mpr (Int64.not_le.mp c_9))), fun h => absurd h (fun h => (Int64.not_lt.mpr c_8) (h.2.2.mpr (Int64.not_le.mp c_9))), fun _ => rfl⟩, by rw [ht]; exact hP, hD⟩, hS.F ht⟩) hS.2.2 d_Meeting_fill_113
      · refine lv_iconst (v := 1) hx hb d_Meeting_fill_92 (by decide) ?_
        refine lv_goto (tgt := 97) hx hb d_Meeting_fill_93 (by decide) ?_
        refine lv_lload hx hb d_Meeting_fill_97 (lv_at hl 0 rfl) ?_
        refine lv_lconst (v := 0) hx hb d_Meeting_fill_99 (by decide) ?_
        refine rf_lcmp_ge (tgt := 108) hx hb d_Meeting_fill_100 d_Meeting_fill_101 (by decide) (fun c_13 => ?_) (fun c_13 => ?_)
        · refine lv_iconst (v := 0) hx hb d_Meeting_fill_108 (by decide) ?_
          refine lv_icmp_eq (tgt := 114) hx hb d_Meeting_fill_109 (by decide) (fun c_14 => absurd c_14 (by decide)) (fun c_14 => ?_)
          refine lv_iconst (v := 0) hx hb d_Meeting_fill_112 (by decide) ?_
          exact W.zret (v := 0) (ty := .boolean) hx hb hr rfl (fun t ht hW => ⟨⟨_, _, rfl, ⟨rf_F (fun h => (Int64.not_lt.mpr c_13) (h.2.2.mp (Int64.not_le.mp c_8))), fun h => absurd h (fun h => (Int64.not_lt.mpr c_13) (h.2.2.mp (Int64.not_le.mp c_8))), fun _ => rfl⟩, by rw [ht]; exact hP, hD⟩, hS.F ht⟩) hS.2.2 d_Meeting_fill_113
        · refine lv_iconst (v := 1) hx hb d_Meeting_fill_104 (by decide) ?_
          refine lv_goto (tgt := 109) hx hb d_Meeting_fill_105 (by decide) ?_
          refine lv_icmp_eq (tgt := 114) hx hb d_Meeting_fill_109 (by decide) (fun c_15 => ?_) (fun c_15 => absurd rfl c_15)
          have hmet : m_met w ra := ⟨hX, c_7, ⟨fun _ => (Int64.not_le.mp c_13), fun _ => (Int64.not_le.mp c_8)⟩⟩
          refine lv_aload_n hx hb d_Meeting_fill_114 rfl (lv_at hl 4 rfl) ?_
          refine lv_iload_n hx hb d_Meeting_fill_115 rfl (lv_at hl 5 rfl) ?_
          refine va_put (D := D) (ci := 2) (v := .int nu) (ty := .int) (C := "RayField$Meeting") (T := F_Meeting) (N := 5) hx hb hts in_Meeting t_Meeting tok_Meeting nn_Meeting hown hK hP hD hS 0 rfl rfl 0 (by decide) (hts _ w_127) (fun _ h9 => h9) rfl (by decide +kernel) rfl rfl (Nat.le_of_ble_eq_true rfl) d_Meeting_fill_116 (fun H locs hP hD hS => ?_)
          have hP : va_P D vwCl [(q, .inr (2, [.int nu, .int f1, .long d1, .long a1, .long v1])), (q2, .inr (0, [.int w.1, .int w.2.1, .int w.2.2.1, .int w.2.2.2])), (q3, .inr (1, [.int ra.1, .int ra.2.1, .int ra.2.2.1, .int ra.2.2.2]))] H := hP
          have hD : va_D A [(q, .inr (2, [.int nu, .int f1, .long d1, .long a1, .long v1])), (q2, .inr (0, [.int w.1, .int w.2.1, .int w.2.2.1, .int w.2.2.2])), (q3, .inr (1, [.int ra.1, .int ra.2.1, .int ra.2.2.1, .int ra.2.2.2]))] := hD
          refine lv_aload_n hx hb d_Meeting_fill_119 rfl (lv_at hl 4 rfl) ?_
          refine lv_lload hx hb d_Meeting_fill_120 (lv_at hl 1 rfl) ?_
          refine lv_lconst (v := 0) hx hb d_Meeting_fill_122 (by decide) ?_
          refine rf_lcmp_ge (tgt := 131) hx hb d_Meeting_fill_123 d_Meeting_fill_124 (by decide) (fun c_16 => absurd (Int64.not_le.mp c_8) (Int64.not_lt.mpr c_16)) (fun c_16 => ?_)
          refine lv_iconst (v := 1) hx hb d_Meeting_fill_127 (by decide) ?_
          refine lv_goto (tgt := 132) hx hb d_Meeting_fill_128 (by decide) ?_
          refine va_put (D := D) (ci := 2) (v := .int 1) (ty := .boolean) (C := "RayField$Meeting") (T := F_Meeting) (N := 5) hx hb hts in_Meeting t_Meeting tok_Meeting nn_Meeting hown hK hP hD hS 0 rfl rfl 1 (by decide) (hts _ w_129) (fun _ h9 => h9) rfl (by decide +kernel) rfl rfl (Nat.le_of_ble_eq_true rfl) d_Meeting_fill_132 (fun H locs hP hD hS => ?_)
          have hP : va_P D vwCl [(q, .inr (2, [.int nu, .int 1, .long d1, .long a1, .long v1])), (q2, .inr (0, [.int w.1, .int w.2.1, .int w.2.2.1, .int w.2.2.2])), (q3, .inr (1, [.int ra.1, .int ra.2.1, .int ra.2.2.1, .int ra.2.2.2]))] H := hP
          have hD : va_D A [(q, .inr (2, [.int nu, .int 1, .long d1, .long a1, .long v1])), (q2, .inr (0, [.int w.1, .int w.2.1, .int w.2.2.1, .int w.2.2.2])), (q3, .inr (1, [.int ra.1, .int ra.2.1, .int ra.2.2.1, .int ra.2.2.2]))] := hD
          refine lv_aload_n hx hb d_Meeting_fill_135 rfl (lv_at hl 4 rfl) ?_
          refine lv_lload hx hb d_Meeting_fill_136 (lv_at hl 1 rfl) ?_
          refine va_mabs_long hx hb (hml.trans hl.1.symm) hown (hts _ w_157) (hts _ w_158) (hts _ w_4) (hts _ w_159) (Nat.le_of_ble_eq_true rfl) (Nat.le_of_ble_eq_true rfl) (Nat.zero_le _) (Nat.zero_le _) d_Meeting_fill_138 ?_
          refine rf_topl (y := m_abs (m_side w ra.1 ra.2.1)) rfl ?_
          refine va_put (D := D) (ci := 2) (v := .long (m_abs (m_side w ra.1 ra.2.1))) (ty := .long) (C := "RayField$Meeting") (T := F_Meeting) (N := 5) hx hb hts in_Meeting t_Meeting tok_Meeting nn_Meeting hown hK hP hD hS 0 rfl rfl 2 (by decide) (hts _ w_131) (fun _ h9 => h9) rfl (by decide +kernel) rfl rfl (Nat.le_of_ble_eq_true rfl) d_Meeting_fill_141 (fun H locs hP hD hS => ?_)
          have hP : va_P D vwCl [(q, .inr (2, [.int nu, .int 1, .long (m_abs (m_side w ra.1 ra.2.1)), .long a1, .long v1])), (q2, .inr (0, [.int w.1, .int w.2.1, .int w.2.2.1, .int w.2.2.2])), (q3, .inr (1, [.int ra.1, .int ra.2.1, .int ra.2.2.1, .int ra.2.2.2]))] H := hP
          have hD : va_D A [(q, .inr (2, [.int nu, .int 1, .long (m_abs (m_side w ra.1 ra.2.1)), .long a1, .long v1])), (q2, .inr (0, [.int w.1, .int w.2.1, .int w.2.2.1, .int w.2.2.2])), (q3, .inr (1, [.int ra.1, .int ra.2.1, .int ra.2.2.1, .int ra.2.2.2]))] := hD
          refine lv_aload_n hx hb d_Meeting_fill_144 rfl (lv_at hl 4 rfl) ?_
          refine lv_lload hx hb d_Meeting_fill_145 (lv_at hl 3 rfl) ?_
          refine va_mabs_long hx hb (hml.trans hl.1.symm) hown (hts _ w_157) (hts _ w_158) (hts _ w_4) (hts _ w_159) (Nat.le_of_ble_eq_true rfl) (Nat.le_of_ble_eq_true rfl) (Nat.zero_le _) (Nat.zero_le _) d_Meeting_fill_147 ?_
          refine rf_topl (y := m_abs (m_rside ra w.1 w.2.1)) rfl ?_
          refine va_put (D := D) (ci := 2) (v := .long (m_abs (m_rside ra w.1 w.2.1))) (ty := .long) (C := "RayField$Meeting") (T := F_Meeting) (N := 5) hx hb hts in_Meeting t_Meeting tok_Meeting nn_Meeting hown hK hP hD hS 0 rfl rfl 3 (by decide) (hts _ w_133) (fun _ h9 => h9) rfl (by decide +kernel) rfl rfl (Nat.le_of_ble_eq_true rfl) d_Meeting_fill_150 (fun H locs hP hD hS => ?_)
          have hP : va_P D vwCl [(q, .inr (2, [.int nu, .int 1, .long (m_abs (m_side w ra.1 ra.2.1)), .long (m_abs (m_rside ra w.1 w.2.1)), .long v1])), (q2, .inr (0, [.int w.1, .int w.2.1, .int w.2.2.1, .int w.2.2.2])), (q3, .inr (1, [.int ra.1, .int ra.2.1, .int ra.2.2.1, .int ra.2.2.2]))] H := hP
          have hD : va_D A [(q, .inr (2, [.int nu, .int 1, .long (m_abs (m_side w ra.1 ra.2.1)), .long (m_abs (m_rside ra w.1 w.2.1)), .long v1])), (q2, .inr (0, [.int w.1, .int w.2.1, .int w.2.2.1, .int w.2.2.2])), (q3, .inr (1, [.int ra.1, .int ra.2.1, .int ra.2.2.1, .int ra.2.2.2]))] := hD
          refine lv_aload_n hx hb d_Meeting_fill_153 rfl (lv_at hl 4 rfl) ?_
          refine lv_lload hx hb d_Meeting_fill_154 (lv_at hl 0 rfl) ?_
          refine va_mabs_long hx hb (hml.trans hl.1.symm) hown (hts _ w_157) (hts _ w_158) (hts _ w_4) (hts _ w_159) (Nat.le_of_ble_eq_true rfl) (Nat.le_of_ble_eq_true rfl) (Nat.zero_le _) (Nat.zero_le _) d_Meeting_fill_156 ?_
          refine rf_topl (y := m_abs ((m_rside ra w.2.2.1 w.2.2.2) - (m_rside ra w.1 w.2.1))) rfl ?_
          refine va_put (D := D) (ci := 2) (v := .long (m_abs ((m_rside ra w.2.2.1 w.2.2.2) - (m_rside ra w.1 w.2.1)))) (ty := .long) (C := "RayField$Meeting") (T := F_Meeting) (N := 5) hx hb hts in_Meeting t_Meeting tok_Meeting nn_Meeting hown hK hP hD hS 0 rfl rfl 4 (by decide) (hts _ w_135) (fun _ h9 => h9) rfl (by decide +kernel) rfl rfl (Nat.le_of_ble_eq_true rfl) d_Meeting_fill_159 (fun H locs hP hD hS => ?_)
          have hP : va_P D vwCl [(q, .inr (2, [.int nu, .int 1, .long (m_abs (m_side w ra.1 ra.2.1)), .long (m_abs (m_rside ra w.1 w.2.1)), .long (m_abs ((m_rside ra w.2.2.1 w.2.2.2) - (m_rside ra w.1 w.2.1)))])), (q2, .inr (0, [.int w.1, .int w.2.1, .int w.2.2.1, .int w.2.2.2])), (q3, .inr (1, [.int ra.1, .int ra.2.1, .int ra.2.2.1, .int ra.2.2.2]))] H := hP
          have hD : va_D A [(q, .inr (2, [.int nu, .int 1, .long (m_abs (m_side w ra.1 ra.2.1)), .long (m_abs (m_rside ra w.1 w.2.1)), .long (m_abs ((m_rside ra w.2.2.1 w.2.2.2) - (m_rside ra w.1 w.2.1)))])), (q2, .inr (0, [.int w.1, .int w.2.1, .int w.2.2.1, .int w.2.2.2])), (q3, .inr (1, [.int ra.1, .int ra.2.1, .int ra.2.2.1, .int ra.2.2.2]))] := hD
          refine lv_iconst (v := 1) hx hb d_Meeting_fill_162 (by decide) ?_
          exact W.zret (v := 1) (ty := .boolean) hx hb hr rfl (fun t ht hW => ⟨⟨_, _, rfl, ⟨rf_T hmet, fun _ => by rw [show m_fr w ra = 1 from (if_pos (Int64.not_le.mp c_16))]; first | done | rfl, fun h => absurd hmet h⟩, by rw [ht]; exact hP, hD⟩, hS.F ht⟩) hS.2.2 d_Meeting_fill_163
  · refine lv_lload hx hb d_Meeting_fill_28 (lv_at hl 1 rfl) ?_
    refine lv_lconst (v := 0) hx hb d_Meeting_fill_30 (by decide) ?_
    refine rf_lcmp_ge (tgt := 39) hx hb d_Meeting_fill_31 d_Meeting_fill_32 (by decide) (fun c_17 => ?_) (fun c_17 => ?_)
    · refine lv_iconst (v := 0) hx hb d_Meeting_fill_39 (by decide) ?_
      refine lv_lload hx hb d_Meeting_fill_40 (lv_at hl 0 rfl) ?_
      refine lv_lconst (v := 0) hx hb d_Meeting_fill_42 (by decide) ?_
      refine rf_lcmp_ge (tgt := 51) hx hb d_Meeting_fill_43 d_Meeting_fill_44 (by decide) (fun c_18 => ?_) (fun c_18 => ?_)
      · refine lv_iconst (v := 0) hx hb d_Meeting_fill_51 (by decide) ?_
        refine lv_icmp_ne (tgt := 57) hx hb d_Meeting_fill_52 (by decide) (fun c_19 => absurd rfl c_19) (fun c_19 => ?_)
        refine lv_iconst (v := 0) hx hb d_Meeting_fill_55 (by decide) ?_
        exact W.zret (v := 0) (ty := .boolean) hx hb hr rfl (fun t ht hW => ⟨⟨_, _, rfl, ⟨rf_F (fun h => h.1 ⟨fun z => absurd z (Int64.not_lt.mpr c_17), fun z => absurd z (Int64.not_lt.mpr c_18)⟩), fun h => absurd h (fun h => h.1 ⟨fun z => absurd z (Int64.not_lt.mpr c_17), fun z => absurd z (Int64.not_lt.mpr c_18)⟩), fun _ => rfl⟩, by rw [ht]; exact hP, hD⟩, hS.F ht⟩) hS.2.2 d_Meeting_fill_56
      · refine lv_iconst (v := 1) hx hb d_Meeting_fill_47 (by decide) ?_
        refine lv_goto (tgt := 52) hx hb d_Meeting_fill_48 (by decide) ?_
        refine lv_icmp_ne (tgt := 57) hx hb d_Meeting_fill_52 (by decide) (fun c_20 => ?_) (fun c_20 => absurd c_20 (by decide))
        exact J57 (fun h => (Int64.not_lt.mpr c_17) (h.mpr (Int64.not_le.mp c_18)))
    · refine lv_iconst (v := 1) hx hb d_Meeting_fill_35 (by decide) ?_
      refine lv_goto (tgt := 40) hx hb d_Meeting_fill_36 (by decide) ?_
      refine lv_lload hx hb d_Meeting_fill_40 (lv_at hl 0 rfl) ?_
      refine lv_lconst (v := 0) hx hb d_Meeting_fill_42 (by decide) ?_
      refine rf_lcmp_ge (tgt := 51) hx hb d_Meeting_fill_43 d_Meeting_fill_44 (by decide) (fun c_21 => ?_) (fun c_21 => ?_)
      · refine lv_iconst (v := 0) hx hb d_Meeting_fill_51 (by decide) ?_
        refine lv_icmp_ne (tgt := 57) hx hb d_Meeting_fill_52 (by decide) (fun c_22 => ?_) (fun c_22 => absurd c_22 (by decide))
        exact J57 (fun h => (Int64.not_lt.mpr c_21) (h.mp (Int64.not_le.mp c_17)))
      · refine lv_iconst (v := 1) hx hb d_Meeting_fill_47 (by decide) ?_
        refine lv_goto (tgt := 52) hx hb d_Meeting_fill_48 (by decide) ?_
        refine lv_icmp_ne (tgt := 57) hx hb d_Meeting_fill_52 (by decide) (fun c_23 => absurd rfl c_23) (fun c_23 => ?_)
        refine lv_iconst (v := 0) hx hb d_Meeting_fill_55 (by decide) ?_
        exact W.zret (v := 0) (ty := .boolean) hx hb hr rfl (fun t ht hW => ⟨⟨_, _, rfl, ⟨rf_F (fun h => h.1 ⟨fun _ => (Int64.not_le.mp c_21), fun _ => (Int64.not_le.mp c_17)⟩), fun h => absurd h (fun h => h.1 ⟨fun _ => (Int64.not_le.mp c_21), fun _ => (Int64.not_le.mp c_17)⟩), fun _ => rfl⟩, by rw [ht]; exact hP, hD⟩, hS.F ht⟩) hS.2.2 d_Meeting_fill_56
