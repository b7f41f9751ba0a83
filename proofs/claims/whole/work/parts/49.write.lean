set_option maxHeartbeats 4000000 in
set_option maxRecDepth 100000 in
theorem c_RF_take (l : Launch) (D : va_G) (x wa ma : Nat) (wc mc : Int32) (ry : Option Nat) (cW cM : ClassId) (wf mf : Nat → Option Nat) (L : List Nat) (f : Nat → va_E) (wl : Nat → Option Q4) (ra : Q4) (n : Nat) (g : Nat → Nat) (hc : rf_CF wl ra ry wf mf L f n g) (i : Int32) (sz : Nat) : Met l y_RF_take (.code y_RF_take b_RF_take 2 (some (.boolean)) :: BIG) { frames := 5, cells := 64, slots := 320, locals := 200 } (rf_Pc D (x_t cW cM) [.ref x, .int i] (fun h => h.size = sz ∧ va_P D vwCl (x_3 x wa ma wc (nI n) ry cW cM wf mf ++ va_pl L f) h ∧ va_D (fun _ => True) (x_3 x wa ma wc (nI n) ry cW cM wf mf ++ va_pl L f))) (va_Qi (S := Int32 × Option Nat × Q4 × (Nat → Option Nat) × (Nat → Option Q4) × List Nat × (Nat → va_E) × (Nat → Option Nat) × Nat × (Nat → Nat)) (fun r u => ((∃ k w, k < 64 ∧ i = nI k ∧ wl k = some w ∧ r = 1 ∧ u.2.2.2.2.1 = va_up wl k none ∧ u.1 = wc - 1 ∧ u.2.1 = ry ∧ u.2.2.1 = ra) ∨ ((∀ k w, k < 64 → i = nI k → ¬ wl k = some w) ∧ r = 0 ∧ u.2.2.2.2.1 = wl ∧ u.1 = wc ∧ u.2.1 = ry ∧ u.2.2.1 = ra)) ∧ rf_CF u.2.2.2.2.1 u.2.2.1 u.2.1 u.2.2.2.1 u.2.2.2.2.2.2.2.1 u.2.2.2.2.2.1 u.2.2.2.2.2.2.1 u.2.2.2.2.2.2.2.2.1 u.2.2.2.2.2.2.2.2.2) (fun u t => va_P D vwCl (x_3 x wa ma u.1 (nI u.2.2.2.2.2.2.2.2.1) u.2.1 cW cM u.2.2.2.1 u.2.2.2.2.2.2.2.1 ++ va_pl u.2.2.2.2.2.1 u.2.2.2.2.2.2.1) t.heap ∧ va_D (va_A (x_3 x wa ma wc (nI n) ry cW cM wf mf ++ va_pl L f) sz) (x_3 x wa ma u.1 (nI u.2.2.2.2.2.2.2.2.1) u.2.1 cW cM u.2.2.2.1 u.2.2.2.2.2.2.2.1 ++ va_pl u.2.2.2.2.2.1 u.2.2.2.2.2.2.1)) (va_A (x_3 x wa ma wc (nI n) ry cW cM wf mf ++ va_pl L f) sz)) 64 320 (va_A (x_3 x wa ma wc (nI n) ry cW cM wf mf ++ va_pl L f) sz) := by
  refine Met.ofW (cc := b_RF_take) (maxL := 2) (ret := (some (.boolean))) (by decide) rfl ?_
  intro p e s m args below meth c s₁ B hml hv
  obtain ⟨rfl, hE, hP⟩ := hv
  have hx := B.exec
  have hb := B.bytes
  have hr := B.returns
  have hts : ∀ w ∈ BIG, w.before [.ref x, .int i].toArray s = true := fun w h => atoms_spec (ws := .code y_RF_take b_RF_take 2 (some (.boolean)) :: BIG) B.pre w (List.mem_cons_of_mem _ h)
  have hown : s.vm.findClass "RayField" = some m.cls := findClass_of_methodNamed B.named
  have hlocks := B.notSynchronized
  have hK := hE.2
  have S0 : CallFix p m c b_RF_take 2 s [.ref x, .int i].toArray BIG "RayField" := ⟨hx, hb, hml, hown, hts⟩
  have hl := lv_entry ([.ref x, .int i]) (n := 2) (Nat.le_of_ble_eq_true rfl)
  rw [lg_entry_eq]
  generalize (lg_sl ([.ref x, .int i]) ++ List.replicate (2 - (lg_sl ([.ref x, .int i])).length) Slot.unset).toArray = ls at hl ⊢
  have hl : lv_has ls 2 [(0, .ref x), (1, .int i)] := hl
  obtain ⟨hsz, hP, hD0⟩ := hP
  subst hsz
  have hD := hD0.self (sz := s.heap.size)
  generalize hAe : va_A (x_3 x wa ma wc (nI n) ry cW cM wf mf ++ va_pl L f) s.heap.size = A at hD ⊢
  have hA : ∀ q : Nat, s.heap.size ≤ q → A q := fun q h => by rw [← hAe]; exact Or.inr h
  obtain ⟨H, hH⟩ : ∃ H : Heap, H = s.heap := ⟨_, rfl⟩
  refine rf_heap hH ?_
  have hS : va_S A s.heap H [] := by rw [hH]; exact va_S.rf
  have hP : va_P D vwCl (x_3 x wa ma wc (nI n) ry cW cM wf mf ++ va_pl L f) H := by rw [hH]; exact hP
  obtain ⟨hw, hmp, hry, hn64, hn0, hM, hgo⟩ := hc
  refine lv_aload_n hx hb d_RF_take_0 rfl (lv_at hl 0 rfl) ?_
  refine lv_iload_n hx hb d_RF_take_1 rfl (lv_at hl 1 rfl) ?_
  refine va_csq (va_Run.run (rf_runV (As := [.int i]) (rest := []) S0 ml_RF_47 (c_RF_wallNumbered l D x wa ma wc (nI n) ry cW cM wf mf L f i) hE (va_recv hK hP (ci := 3) (q0 := 0) rfl rfl) hP ⟨rfl, rfl, Nat.le_of_ble_eq_true rfl, Nat.le_of_ble_eq_true rfl⟩ rfl hl.1 rfl (Nat.le_of_ble_eq_true rfl) d_RF_take_2 ⟨Nat.zero_le _, Nat.zero_le _⟩)) (fun r_1 h_2 => ?_)
  refine rf_topq (fun e_3 => ?_) (fun q_4 e_3 => ?_)
  · have h0 := rf_wn_none hw h_2 e_3
    refine lv_ifnonnullN hx hb d_RF_take_5 ?_
    refine lv_iconst (v := 0) hx hb d_RF_take_8 (by decide) ?_
    refine W.widen (k := 64) (n := 320) (by omega) (by omega) ?_
    exact W.zret (v := 0) (ty := .boolean) hx hb hr rfl (fun t ht hW => ⟨⟨_, (wc, ry, ra, wf, wl, L, f, mf, n, g), rfl, ⟨Or.inr ⟨rf_no_wall h0, rfl, rfl, rfl, rfl, rfl⟩, ⟨hw, hmp, hry, hn64, hn0, hM, hgo⟩⟩, by rw [ht]; exact hP, hD⟩, hS.F ht⟩) hS.2.2 d_RF_take_9
  · obtain ⟨k, w, hk, ek, b0, b1, b2, b3⟩ := rf_wn_some hw h_2 e_3
    subst ek
    refine lv_ifnonnull (tgt := 10) hx hb d_RF_take_5 (by decide) ?_
    refine lv_aload_n hx hb d_RF_take_10 rfl (lv_at hl 0 rfl) ?_
    refine va_get (D := D) (ci := 3) (v := .ref wa) (C := "RayField") (T := F_RF) (N := 5) hx hb hts in_RF hown hK hP 0 rfl rfl 0 (by decide) (hts _ w_19) (fun _ h9 => h9) rfl d_RF_take_11 ?_
    refine lv_iload_n hx hb d_RF_take_14 rfl (lv_at hl 1 rfl) ?_
    refine lv_null hx hb d_RF_take_15 ?_
    refine rf_astqN (C := "RayField$Wall") hx hb hK hP hD hS 1 0 rfl rfl hk (by decide) d_RF_take_16 (fun H locs hP hD hS => ?_)
    have hP : va_P D vwCl (x_3 x wa ma wc (nI n) ry cW cM (va_up wf k none) mf ++ va_pl L f) H := hP
    have hD : va_D A (x_3 x wa ma wc (nI n) ry cW cM (va_up wf k none) mf ++ va_pl L f) := hD
    have hw2 := hw.take (k := k)
    refine lv_aload_n hx hb d_RF_take_17 rfl (lv_at hl 0 rfl) ?_
    refine lv_dup hx hb d_RF_take_18 rfl ?_
    refine va_get (D := D) (ci := 3) (v := .int wc) (C := "RayField") (T := F_RF) (N := 5) hx hb hts in_RF hown hK hP 0 rfl rfl 1 (by decide) (hts _ w_20) (fun _ h9 => h9) rfl d_RF_take_19 ?_
    refine lv_iconst (v := 1) hx hb d_RF_take_22 (by decide) ?_
    refine lv_isub hx hb d_RF_take_23 ?_
    refine va_put (D := D) (ci := 3) (v := .int (wc - 1)) (ty := .int) (C := "RayField") (T := F_RF) (N := 5) hx hb hts in_RF t_RF tok_RF nn_RF hown hK hP hD hS 0 rfl rfl 1 (by decide) (hts _ w_20) (fun _ h9 => h9) rfl (by decide +kernel) rfl rfl (Nat.le_of_ble_eq_true rfl) d_RF_take_24 (fun H locs hP hD hS => ?_)
    have hP : va_P D vwCl (x_3 x wa ma (wc - 1) (nI n) ry cW cM (va_up wf k none) mf ++ va_pl L f) H := hP
    have hD : va_D A (x_3 x wa ma (wc - 1) (nI n) ry cW cM (va_up wf k none) mf ++ va_pl L f) := hD
    refine lv_aload_n hx hb d_RF_take_27 rfl (lv_at hl 0 rfl) ?_
    have hFc := rf_freeW hD hS hA
    refine va_callv (rf_runV (As := []) (rest := []) S0 ml_RF_44 (c_RF_meetAgain l D x wa ma (wc - 1) (nI n) ry cW cM (va_up wf k none) mf L f (va_up wl k none) ra hw2 hmp hry H.size) hE (va_recv hK hP (ci := 3) (q0 := 0) rfl rfl) ⟨rfl, hP, hD.weaken (fun _ _ _ _ => trivial)⟩ ⟨rfl, rfl, Nat.le_of_ble_eq_true rfl, Nat.le_of_ble_eq_true rfl⟩ rfl hl.1 rfl (Nat.le_of_ble_eq_true rfl) d_RF_take_28 ⟨Nat.le_of_ble_eq_true rfl, Nat.le_of_ble_eq_true rfl⟩) hS (fun q _ h => hFc q h) hFc (fun u t H1 locs ht hvm hu hB hz1 hk1 hS => ?_)
    obtain ⟨hP, hD1⟩ := hB
    rw [ht] at hP
    have hD := hD1.weaken (fun k q _ h => hFc q.1 h)
    generalize H1 = H at hP hS ⊢
    obtain ⟨L9, f9, mf9, n9, g9⟩ := u
    have hcf := rf_CF.mk9 hw2 hry hu
    dsimp only at hcf hP hD
    have hP : va_P D vwCl (x_3 x wa ma (wc - 1) (nI n9) ry cW cM (va_up wf k none) mf9 ++ va_pl L9 f9) H := hP
    have hD : va_D A (x_3 x wa ma (wc - 1) (nI n9) ry cW cM (va_up wf k none) mf9 ++ va_pl L9 f9) := hD
    refine lv_iconst (v := 1) hx hb d_RF_take_31 (by decide) ?_
    refine W.widen (k := 64) (n := 320) (by omega) (by omega) ?_
    exact W.zret (v := 1) (ty := .boolean) hx hb hr rfl (fun t ht hW => ⟨⟨_, (wc - 1, ry, ra, (va_up wf k none), (va_up wl k none), L9, f9, mf9, n9, g9), rfl, ⟨Or.inl ⟨k, w, hk, rfl, b1, rfl, rfl, rfl, rfl, rfl⟩, hcf⟩, by rw [ht]; exact hP, hD⟩, hS.F ht⟩) hS.2.2 d_RF_take_32
set_option maxHeartbeats 4000000 in
set_option maxRecDepth 100000 in
theorem c_RF_turn (l : Launch) (D : va_G) (x wa ma : Nat) (wc mc : Int32) (ry : Option Nat) (cW cM : ClassId) (wf mf : Nat → Option Nat) (L : List Nat) (f : Nat → va_E) (wl : Nat → Option Q4) (ra : Q4) (n : Nat) (g : Nat → Nat) (hc : rf_CF wl ra ry wf mf L f n g) (i : Int32) (sz : Nat) : Met l y_RF_turn (.code y_RF_turn b_RF_turn 3 (some (.boolean)) :: BIG) { frames := 5, cells := 64, slots := 320, locals := 200 } (rf_Pc D (x_t cW cM) [.ref x, .int i] (fun h => h.size = sz ∧ va_P D vwCl (x_3 x wa ma wc (nI n) ry cW cM wf mf ++ va_pl L f) h ∧ va_D (fun _ => True) (x_3 x wa ma wc (nI n) ry cW cM wf mf ++ va_pl L f))) (va_Qi (S := Int32 × Option Nat × Q4 × (Nat → Option Nat) × (Nat → Option Q4) × List Nat × (Nat → va_E) × (Nat → Option Nat) × Nat × (Nat → Nat)) (fun r u => ((∃ k w, k < 64 ∧ i = nI k ∧ wl k = some w ∧ r = 1 ∧ u.2.2.2.2.1 = va_up wl k (some (w.2.2.1, w.2.2.2, w.1, w.2.1)) ∧ u.1 = wc ∧ u.2.1 = ry ∧ u.2.2.1 = ra) ∨ ((∀ k w, k < 64 → i = nI k → ¬ wl k = some w) ∧ r = 0 ∧ u.2.2.2.2.1 = wl ∧ u.1 = wc ∧ u.2.1 = ry ∧ u.2.2.1 = ra)) ∧ rf_CF u.2.2.2.2.1 u.2.2.1 u.2.1 u.2.2.2.1 u.2.2.2.2.2.2.2.1 u.2.2.2.2.2.1 u.2.2.2.2.2.2.1 u.2.2.2.2.2.2.2.2.1 u.2.2.2.2.2.2.2.2.2) (fun u t => va_P D vwCl (x_3 x wa ma u.1 (nI u.2.2.2.2.2.2.2.2.1) u.2.1 cW cM u.2.2.2.1 u.2.2.2.2.2.2.2.1 ++ va_pl u.2.2.2.2.2.1 u.2.2.2.2.2.2.1) t.heap ∧ va_D (va_A (x_3 x wa ma wc (nI n) ry cW cM wf mf ++ va_pl L f) sz) (x_3 x wa ma u.1 (nI u.2.2.2.2.2.2.2.2.1) u.2.1 cW cM u.2.2.2.1 u.2.2.2.2.2.2.2.1 ++ va_pl u.2.2.2.2.2.1 u.2.2.2.2.2.2.1)) (va_A (x_3 x wa ma wc (nI n) ry cW cM wf mf ++ va_pl L f) sz)) 64 320 (va_A (x_3 x wa ma wc (nI n) ry cW cM wf mf ++ va_pl L f) sz) := by
  refine Met.ofW (cc := b_RF_turn) (maxL := 3) (ret := (some (.boolean))) (by decide) rfl ?_
  intro p e s m args below meth c s₁ B hml hv
  obtain ⟨rfl, hE, hP⟩ := hv
  have hx := B.exec
  have hb := B.bytes
  have hr := B.returns
  have hts : ∀ w ∈ BIG, w.before [.ref x, .int i].toArray s = true := fun w h => atoms_spec (ws := .code y_RF_turn b_RF_turn 3 (some (.boolean)) :: BIG) B.pre w (List.mem_cons_of_mem _ h)
  have hown : s.vm.findClass "RayField" = some m.cls := findClass_of_methodNamed B.named
  have hlocks := B.notSynchronized
  have hK := hE.2
  have S0 : CallFix p m c b_RF_turn 3 s [.ref x, .int i].toArray BIG "RayField" := ⟨hx, hb, hml, hown, hts⟩
  have hl := lv_entry ([.ref x, .int i]) (n := 3) (Nat.le_of_ble_eq_true rfl)
  rw [lg_entry_eq]
  generalize (lg_sl ([.ref x, .int i]) ++ List.replicate (3 - (lg_sl ([.ref x, .int i])).length) Slot.unset).toArray = ls at hl ⊢
  have hl : lv_has ls 3 [(0, .ref x), (1, .int i)] := hl
  obtain ⟨hsz, hP, hD0⟩ := hP
  subst hsz
  have hD := hD0.self (sz := s.heap.size)
  generalize hAe : va_A (x_3 x wa ma wc (nI n) ry cW cM wf mf ++ va_pl L f) s.heap.size = A at hD ⊢
  have hA : ∀ q : Nat, s.heap.size ≤ q → A q := fun q h => by rw [← hAe]; exact Or.inr h
  obtain ⟨H, hH⟩ : ∃ H : Heap, H = s.heap := ⟨_, rfl⟩
  refine rf_heap hH ?_
  have hS : va_S A s.heap H [] := by rw [hH]; exact va_S.rf
  have hP : va_P D vwCl (x_3 x wa ma wc (nI n) ry cW cM wf mf ++ va_pl L f) H := by rw [hH]; exact hP
  obtain ⟨hw, hmp, hry, hn64, hn0, hM, hgo⟩ := hc
  refine lv_aload_n hx hb d_RF_turn_0 rfl (lv_at hl 0 rfl) ?_
  refine lv_iload_n hx hb d_RF_turn_1 rfl (lv_at hl 1 rfl) ?_
  refine va_csq (va_Run.run (rf_runV (As := [.int i]) (rest := []) S0 ml_RF_47 (c_RF_wallNumbered l D x wa ma wc (nI n) ry cW cM wf mf L f i) hE (va_recv hK hP (ci := 3) (q0 := 0) rfl rfl) hP ⟨rfl, rfl, Nat.le_of_ble_eq_true rfl, Nat.le_of_ble_eq_true rfl⟩ rfl hl.1 rfl (Nat.le_of_ble_eq_true rfl) d_RF_turn_2 ⟨Nat.zero_le _, Nat.zero_le _⟩)) (fun r_1 h_2 => ?_)
  refine rf_topq (fun e_3 => ?_) (fun q_4 e_3 => ?_)
  · have h0 := rf_wn_none hw h_2 e_3
    refine lv_astore_nN (lv' := [(2, .null), (0, .ref x), (1, .int i)]) hx hb d_RF_turn_5 rfl hl (by decide) rfl (fun ls hl => ?_)
    refine lv_aload_nN hx hb d_RF_turn_6 rfl (lv_at hl 0 rfl) ?_
    refine lv_ifnonnullN hx hb d_RF_turn_7 ?_
    refine lv_iconst (v := 0) hx hb d_RF_turn_10 (by decide) ?_
    refine W.widen (k := 64) (n := 320) (by omega) (by omega) ?_
    exact W.zret (v := 0) (ty := .boolean) hx hb hr rfl (fun t ht hW => ⟨⟨_, (wc, ry, ra, wf, wl, L, f, mf, n, g), rfl, ⟨Or.inr ⟨rf_no_wall h0, rfl, rfl, rfl, rfl, rfl⟩, ⟨hw, hmp, hry, hn64, hn0, hM, hgo⟩⟩, by rw [ht]; exact hP, hD⟩, hS.F ht⟩) hS.2.2 d_RF_turn_11
  · obtain ⟨k, w, hk, ek, b0, b1, b2, b3⟩ := rf_wn_some hw h_2 e_3
    subst ek
    refine lv_astore_n (lv' := [(2, .ref q_4), (0, .ref x), (1, .int (nI k))]) hx hb d_RF_turn_5 rfl hl (by decide) rfl (fun ls hl => ?_)
    refine lv_aload_n hx hb d_RF_turn_6 rfl (lv_at hl 0 rfl) ?_
    refine lv_ifnonnull (tgt := 12) hx hb d_RF_turn_7 (by decide) ?_
    refine lv_aload_n hx hb d_RF_turn_12 rfl (lv_at hl 0 rfl) ?_
    have hFc := rf_poolfree (wc := [(q_4, e_W w)]) hD hS hA (rf_mem1 b2)
    refine va_callv (rf_runV (As := []) (rest := []) S0 ml_RF_51 (c_Wall_exchange l D (x_t cW cM) q_4 w H.size) hE (va_recv hK (rf_pl hP b2 b3) (ci := 0) (q0 := 0) rfl rfl) ⟨rfl, rf_pl hP b2 b3, rf_D1⟩ ⟨rfl, rfl, Nat.le_of_ble_eq_true rfl, Nat.le_of_ble_eq_true rfl⟩ rfl hl.1 rfl (Nat.le_of_ble_eq_true rfl) d_RF_turn_13 ⟨Nat.le_of_ble_eq_true rfl, Nat.le_of_ble_eq_true rfl⟩) hS (fun q _ h => hFc q h) hFc (fun u0 t H1 locs ht hvm hw0 hB hz1 hk1 hS => ?_)
    obtain ⟨hP1, hD1⟩ := hB
    rw [ht] at hP1
    obtain ⟨hP, hD⟩ := rf_pool1 (u := e_W (w.2.2.1, w.2.2.2, w.1, w.2.1)) hP hD b2 hk1 hP1
    generalize H1 = H at hP hS ⊢
    have hP : va_P D vwCl (x_3 x wa ma wc (nI n) ry cW cM wf mf ++ va_pl L (va_up f q_4 (e_W (w.2.2.1, w.2.2.2, w.1, w.2.1)))) H := hP
    have hD : va_D A (x_3 x wa ma wc (nI n) ry cW cM wf mf ++ va_pl L (va_up f q_4 (e_W (w.2.2.1, w.2.2.2, w.1, w.2.1)))) := hD
    have hw2 := hw.turn (w' := (w.2.2.1, w.2.2.2, w.1, w.2.1)) hk b0 b2
    have hmp2 := hmp.wall (u := e_W (w.2.2.1, w.2.2.2, w.1, w.2.1)) b3
    have hry2 : ∀ q, ry = some q → q ∈ L ∧ va_up f q_4 (e_W (w.2.2.1, w.2.2.2, w.1, w.2.1)) q = e_R ra := rf_ry_wall hry b3
    refine lv_aload_n hx hb d_RF_turn_16 rfl (lv_at hl 1 rfl) ?_
    have hFc := rf_freeW hD hS hA
    refine va_callv (rf_runV (As := []) (rest := []) S0 ml_RF_44 (c_RF_meetAgain l D x wa ma wc (nI n) ry cW cM wf mf L (va_up f q_4 (e_W (w.2.2.1, w.2.2.2, w.1, w.2.1))) (va_up wl k (some (w.2.2.1, w.2.2.2, w.1, w.2.1))) ra hw2 hmp2 hry2 H.size) hE (va_recv hK hP (ci := 3) (q0 := 0) rfl rfl) ⟨rfl, hP, hD.weaken (fun _ _ _ _ => trivial)⟩ ⟨rfl, rfl, Nat.le_of_ble_eq_true rfl, Nat.le_of_ble_eq_true rfl⟩ rfl hl.1 rfl (Nat.le_of_ble_eq_true rfl) d_RF_turn_17 ⟨Nat.le_of_ble_eq_true rfl, Nat.le_of_ble_eq_true rfl⟩) hS (fun q _ h => hFc q h) hFc (fun u t H1 locs ht hvm hu hB hz1 hk1 hS => ?_)
    obtain ⟨hP, hD1⟩ := hB
    rw [ht] at hP
    have hD := hD1.weaken (fun k q _ h => hFc q.1 h)
    generalize H1 = H at hP hS ⊢
    obtain ⟨L9, f9, mf9, n9, g9⟩ := u
    have hcf := rf_CF.mk9 hw2 hry2 hu
    dsimp only at hcf hP hD
    have hP : va_P D vwCl (x_3 x wa ma wc (nI n9) ry cW cM wf mf9 ++ va_pl L9 f9) H := hP
    have hD : va_D A (x_3 x wa ma wc (nI n9) ry cW cM wf mf9 ++ va_pl L9 f9) := hD
    refine lv_iconst (v := 1) hx hb d_RF_turn_20 (by decide) ?_
    refine W.widen (k := 64) (n := 320) (by omega) (by omega) ?_
    exact W.zret (v := 1) (ty := .boolean) hx hb hr rfl (fun t ht hW => ⟨⟨_, (wc, ry, ra, wf, (va_up wl k (some (w.2.2.1, w.2.2.2, w.1, w.2.1))), L9, f9, mf9, n9, g9), rfl, ⟨Or.inl ⟨k, w, hk, rfl, b1, rfl, rfl, rfl, rfl, rfl⟩, hcf⟩, by rw [ht]; exact hP, hD⟩, hS.F ht⟩) hS.2.2 d_RF_turn_21
