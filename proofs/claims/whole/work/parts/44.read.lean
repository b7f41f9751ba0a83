set_option maxHeartbeats 4000000 in
set_option maxRecDepth 100000 in
theorem c_RF_wall (l : Launch) (D : va_G) (x wa ma : Nat) (wc mc : Int32) (ry : Option Nat) (cW cM : ClassId) (wf mf : Nat → Option Nat) (L : List Nat) (f : Nat → va_E) (wl : Nat → Option Q4) (ra : Q4) (n : Nat) (g : Nat → Nat) (hn : n ≤ 64) (hmc : mc = nI n) (hM : rf_meets L f mf wl ra n g) (i : Int32) : Met l y_RF_wall (.code y_RF_wall b_RF_wall 3 (some (.int)) :: BIG) { frames := 1, cells := 0, slots := 0, locals := 40 } (rf_Pc D (x_t cW cM) [.ref x, .int i] (fun h => va_P D vwCl (x_3 x wa ma wc mc ry cW cM wf mf ++ va_pl L f) h)) (vp_Si (fun r => (∃ k, k < n ∧ i = nI k ∧ r = nI (g k)) ∨ ((∀ k, k < n → ¬ i = nI k) ∧ r = -1))) 0 0 (fun _ => False) := by
  refine Met.ofW (cc := b_RF_wall) (maxL := 3) (ret := (some (.int))) (by decide) rfl ?_
  intro p e s m args below meth c s₁ B hml hv
  obtain ⟨rfl, hE, hP⟩ := hv
  have hx := B.exec
  have hb := B.bytes
  have hr := B.returns
  have hts : ∀ w ∈ BIG, w.before [.ref x, .int i].toArray s = true := fun w h => atoms_spec (ws := .code y_RF_wall b_RF_wall 3 (some (.int)) :: BIG) B.pre w (List.mem_cons_of_mem _ h)
  have hown : s.vm.findClass "RayField" = some m.cls := findClass_of_methodNamed B.named
  have hlocks := B.notSynchronized
  have hK := hE.2
  have S0 : CallFix p m c b_RF_wall 3 s [.ref x, .int i].toArray BIG "RayField" := ⟨hx, hb, hml, hown, hts⟩
  have hl := lv_entry ([.ref x, .int i]) (n := 3) (Nat.le_of_ble_eq_true rfl)
  rw [lg_entry_eq]
  generalize (lg_sl ([.ref x, .int i]) ++ List.replicate (3 - (lg_sl ([.ref x, .int i])).length) Slot.unset).toArray = ls at hl ⊢
  have hl : lv_has ls 3 [(0, .ref x), (1, .int i)] := hl
  have hP : va_P D vwCl (x_3 x wa ma wc mc ry cW cM wf mf ++ va_pl L f) s.heap := hP
  refine lv_aload_n hx hb d_RF_wall_0 rfl (lv_at hl 0 rfl) ?_
  refine lv_iload_n hx hb d_RF_wall_1 rfl (lv_at hl 1 rfl) ?_
  refine va_csq (va_Run.run (rf_runV (As := [.int i]) (rest := []) S0 ml_RF_64 (c_RF_meetingAt l D x wa ma wc mc ry cW cM wf mf L f n hn hmc i) hE (va_recv hK hP (ci := 3) (q0 := 0) rfl rfl) hP ⟨rfl, rfl, Nat.le_of_ble_eq_true rfl, Nat.le_of_ble_eq_true rfl⟩ rfl hl.1 rfl (Nat.le_of_ble_eq_true rfl) d_RF_wall_2 ⟨Nat.zero_le _, Nat.zero_le _⟩)) (fun r_1 h_2 => ?_)
  refine rf_topq (fun e_3 => ?_) (fun q_4 e_3 => ?_)
  · have h0 := rf_mt_none hM h_2 e_3
    refine lv_astore_nN (lv' := [(2, .null), (0, .ref x), (1, .int i)]) hx hb d_RF_wall_5 rfl hl (by decide) rfl (fun ls hl => ?_)
    refine lv_aload_nN hx hb d_RF_wall_6 rfl (lv_at hl 0 rfl) ?_
    refine lv_ifnonnullN hx hb d_RF_wall_7 ?_
    refine lv_iconst (v := -1) hx hb d_RF_wall_10 (by decide) ?_
    refine lv_goto (tgt := 18) hx hb d_RF_wall_11 (by decide) ?_
    exact W.iret (v := (-1)) hx hb hr (fun t ht hW => ⟨_, rfl, (Or.inr ⟨h0, rfl⟩), ht⟩) (fun _ h => absurd h List.not_mem_nil) d_RF_wall_18
  · obtain ⟨k, w, hk, ek, b1, b2, b3⟩ := rf_mt_some hM h_2 e_3
    have hPm := rf_pl hP b1 b3
    refine lv_astore_n (lv' := [(2, .ref q_4), (0, .ref x), (1, .int i)]) hx hb d_RF_wall_5 rfl hl (by decide) rfl (fun ls hl => ?_)
    refine lv_aload_n hx hb d_RF_wall_6 rfl (lv_at hl 0 rfl) ?_
    refine lv_ifnonnull (tgt := 14) hx hb d_RF_wall_7 (by decide) ?_
    refine lv_aload_n hx hb d_RF_wall_14 rfl (lv_at hl 0 rfl) ?_
    refine va_getN (D := D) (ci := 2) (v := .int (nI (g k))) (C := "RayField$Meeting") (T := F_Meeting) (N := 5) hx hb hts in_Meeting hown hK hPm 0 rfl rfl 0 (by decide) (va_Nw.use rfl (hE.1.1 _ w_128 rfl)) (fun _ h9 => h9) rfl d_RF_wall_15 ?_
    exact W.iret (v := nI (g k)) hx hb hr (fun t ht hW => ⟨_, rfl, (Or.inl ⟨k, hk, ek, rfl⟩), ht⟩) (fun _ h => absurd h List.not_mem_nil) d_RF_wall_18
set_option maxHeartbeats 4000000 in
set_option maxRecDepth 100000 in
theorem c_RF_isRight (l : Launch) (D : va_G) (x wa ma : Nat) (wc mc : Int32) (ry : Option Nat) (cW cM : ClassId) (wf mf : Nat → Option Nat) (L : List Nat) (f : Nat → va_E) (wl : Nat → Option Q4) (ra : Q4) (n : Nat) (g : Nat → Nat) (hn : n ≤ 64) (hmc : mc = nI n) (hM : rf_meets L f mf wl ra n g) (i : Int32) : Met l y_RF_isRight (.code y_RF_isRight b_RF_isRight 3 (some (.boolean)) :: BIG) { frames := 1, cells := 0, slots := 0, locals := 40 } (rf_Pc D (x_t cW cM) [.ref x, .int i] (fun h => va_P D vwCl (x_3 x wa ma wc mc ry cW cM wf mf ++ va_pl L f) h)) (vp_Si (fun r => rf_tf r (∃ k, k < n ∧ i = nI k ∧ ∃ w, wl (g k) = some w ∧ m_p w ra < 0))) 0 0 (fun _ => False) := by
  refine Met.ofW (cc := b_RF_isRight) (maxL := 3) (ret := (some (.boolean))) (by decide) rfl ?_
  intro p e s m args below meth c s₁ B hml hv
  obtain ⟨rfl, hE, hP⟩ := hv
  have hx := B.exec
  have hb := B.bytes
  have hr := B.returns
  have hts : ∀ w ∈ BIG, w.before [.ref x, .int i].toArray s = true := fun w h => atoms_spec (ws := .code y_RF_isRight b_RF_isRight 3 (some (.boolean)) :: BIG) B.pre w (List.mem_cons_of_mem _ h)
  have hown : s.vm.findClass "RayField" = some m.cls := findClass_of_methodNamed B.named
  have hlocks := B.notSynchronized
  have hK := hE.2
  have S0 : CallFix p m c b_RF_isRight 3 s [.ref x, .int i].toArray BIG "RayField" := ⟨hx, hb, hml, hown, hts⟩
  have hl := lv_entry ([.ref x, .int i]) (n := 3) (Nat.le_of_ble_eq_true rfl)
  rw [lg_entry_eq]
  generalize (lg_sl ([.ref x, .int i]) ++ List.replicate (3 - (lg_sl ([.ref x, .int i])).length) Slot.unset).toArray = ls at hl ⊢
  have hl : lv_has ls 3 [(0, .ref x), (1, .int i)] := hl
  have hP : va_P D vwCl (x_3 x wa ma wc mc ry cW cM wf mf ++ va_pl L f) s.heap := hP
  refine lv_aload_n hx hb d_RF_isRight_0 rfl (lv_at hl 0 rfl) ?_
  refine lv_iload_n hx hb d_RF_isRight_1 rfl (lv_at hl 1 rfl) ?_
  refine va_csq (va_Run.run (rf_runV (As := [.int i]) (rest := []) S0 ml_RF_64 (c_RF_meetingAt l D x wa ma wc mc ry cW cM wf mf L f n hn hmc i) hE (va_recv hK hP (ci := 3) (q0 := 0) rfl rfl) hP ⟨rfl, rfl, Nat.le_of_ble_eq_true rfl, Nat.le_of_ble_eq_true rfl⟩ rfl hl.1 rfl (Nat.le_of_ble_eq_true rfl) d_RF_isRight_2 ⟨Nat.zero_le _, Nat.zero_le _⟩)) (fun r_1 h_2 => ?_)
  refine rf_topq (fun e_3 => ?_) (fun q_4 e_3 => ?_)
  · have h0 := rf_mt_none hM h_2 e_3
    refine lv_astore_nN (lv' := [(2, .null), (0, .ref x), (1, .int i)]) hx hb d_RF_isRight_5 rfl hl (by decide) rfl (fun ls hl => ?_)
    refine lv_aload_nN hx hb d_RF_isRight_6 rfl (lv_at hl 0 rfl) ?_
    refine lv_ifnullN (tgt := 21) hx hb d_RF_isRight_7 (by decide) ?_
    refine lv_iconst (v := 0) hx hb d_RF_isRight_21 (by decide) ?_
    exact W.zret (v := 0) (ty := .boolean) hx hb hr rfl (fun t ht hW => ⟨_, rfl, (rf_F (fun ⟨k, hk, ek, _⟩ => h0 k hk ek)), ht⟩) (fun _ h => absurd h List.not_mem_nil) d_RF_isRight_22
  · obtain ⟨k, w, hk, ek, b1, b2, b3⟩ := rf_mt_some hM h_2 e_3
    have hPm := rf_pl hP b1 b3
    refine lv_astore_n (lv' := [(2, .ref q_4), (0, .ref x), (1, .int i)]) hx hb d_RF_isRight_5 rfl hl (by decide) rfl (fun ls hl => ?_)
    refine lv_aload_n hx hb d_RF_isRight_6 rfl (lv_at hl 0 rfl) ?_
    refine lv_ifnull hx hb d_RF_isRight_7 ?_
    refine lv_aload_n hx hb d_RF_isRight_10 rfl (lv_at hl 0 rfl) ?_
    refine va_getN (D := D) (ci := 2) (v := .int (m_fr w ra)) (C := "RayField$Meeting") (T := F_Meeting) (N := 5) hx hb hts in_Meeting hown hK hPm 0 rfl rfl 1 (by decide) (va_Nw.use rfl (hE.1.1 _ w_130 rfl)) (fun _ h9 => h9) rfl d_RF_isRight_11 ?_
    refine lv_if_eq (tgt := 21) hx hb d_RF_isRight_14 (by decide) (fun c_5 => ?_) (fun c_5 => ?_)
    · refine lv_iconst (v := 0) hx hb d_RF_isRight_21 (by decide) ?_
      exact W.zret (v := 0) (ty := .boolean) hx hb hr rfl (fun t ht hW => ⟨_, rfl, (rf_F (rf_only hn hk ek b2 (P := fun w => m_p w ra < 0) (m_fr_f c_5))), ht⟩) (fun _ h => absurd h List.not_mem_nil) d_RF_isRight_22
    · refine lv_iconst (v := 1) hx hb d_RF_isRight_17 (by decide) ?_
      refine lv_goto (tgt := 22) hx hb d_RF_isRight_18 (by decide) ?_
      exact W.zret (v := 1) (ty := .boolean) hx hb hr rfl (fun t ht hW => ⟨_, rfl, (rf_T ⟨k, hk, ek, w, b2, m_fr_t c_5⟩), ht⟩) (fun _ h => absurd h List.not_mem_nil) d_RF_isRight_22
set_option maxHeartbeats 4000000 in
set_option maxRecDepth 100000 in
theorem c_RF_times (l : Launch) (D : va_G) (x wa ma : Nat) (wc mc : Int32) (ry : Option Nat) (cW cM : ClassId) (wf mf : Nat → Option Nat) (L : List Nat) (f : Nat → va_E) (wl : Nat → Option Q4) (ra : Q4) (n : Nat) (g : Nat → Nat) (hn : n ≤ 64) (hmc : mc = nI n) (hM : rf_meets L f mf wl ra n g) (i nn : Int32) : Met l y_RF_times (.code y_RF_times b_RF_times 4 (some (.long)) :: BIG) { frames := 2, cells := 0, slots := 0, locals := 80 } (rf_Pc D (x_t cW cM) [.ref x, .int i, .int nn] (fun h => va_P D vwCl (x_3 x wa ma wc mc ry cW cM wf mf ++ va_pl L f) h)) (vp_Sl (fun r => (∃ k w, k < n ∧ i = nI k ∧ wl (g k) = some w ∧ m_btw nn 0 1000000 ∧ r = m_rd (nn.toInt64 * m_abs (m_p w ra)) (m_abs (m_q w ra))) ∨ (((∀ k, k < n → ¬ i = nI k) ∨ ¬ m_btw nn 0 1000000) ∧ r = -1))) 0 0 (fun _ => False) := by
  refine Met.ofW (cc := b_RF_times) (maxL := 4) (ret := (some (.long))) (by decide) rfl ?_
  intro p e s m args below meth c s₁ B hml hv
  obtain ⟨rfl, hE, hP⟩ := hv
  have hx := B.exec
  have hb := B.bytes
  have hr := B.returns
  have hts : ∀ w ∈ BIG, w.before [.ref x, .int i, .int nn].toArray s = true := fun w h => atoms_spec (ws := .code y_RF_times b_RF_times 4 (some (.long)) :: BIG) B.pre w (List.mem_cons_of_mem _ h)
  have hown : s.vm.findClass "RayField" = some m.cls := findClass_of_methodNamed B.named
  have hlocks := B.notSynchronized
  have hK := hE.2
  have S0 : CallFix p m c b_RF_times 4 s [.ref x, .int i, .int nn].toArray BIG "RayField" := ⟨hx, hb, hml, hown, hts⟩
  have hl := lv_entry ([.ref x, .int i, .int nn]) (n := 4) (Nat.le_of_ble_eq_true rfl)
  rw [lg_entry_eq]
  generalize (lg_sl ([.ref x, .int i, .int nn]) ++ List.replicate (4 - (lg_sl ([.ref x, .int i, .int nn])).length) Slot.unset).toArray = ls at hl ⊢
  have hl : lv_has ls 4 [(0, .ref x), (1, .int i), (2, .int nn)] := hl
  have hP : va_P D vwCl (x_3 x wa ma wc mc ry cW cM wf mf ++ va_pl L f) s.heap := hP
  refine lv_aload_n hx hb d_RF_times_0 rfl (lv_at hl 0 rfl) ?_
  refine lv_iload_n hx hb d_RF_times_1 rfl (lv_at hl 1 rfl) ?_
  refine va_csq (va_Run.run (rf_runV (As := [.int i]) (rest := []) S0 ml_RF_64 (c_RF_meetingAt l D x wa ma wc mc ry cW cM wf mf L f n hn hmc i) hE (va_recv hK hP (ci := 3) (q0 := 0) rfl rfl) hP ⟨rfl, rfl, Nat.le_of_ble_eq_true rfl, Nat.le_of_ble_eq_true rfl⟩ rfl hl.1 rfl (Nat.le_of_ble_eq_true rfl) d_RF_times_2 ⟨Nat.zero_le _, Nat.zero_le _⟩)) (fun r_1 h_2 => ?_)
  refine rf_topq (fun e_3 => ?_) (fun q_4 e_3 => ?_)
  · have h0 := rf_mt_none hM h_2 e_3
    refine lv_astore_nN (lv' := [(3, .null), (0, .ref x), (1, .int i), (2, .int nn)]) hx hb d_RF_times_5 rfl hl (by decide) rfl (fun ls hl => ?_)
    refine lv_aload_nN hx hb d_RF_times_6 rfl (lv_at hl 0 rfl) ?_
    refine lv_ifnullN (tgt := 20) hx hb d_RF_times_7 (by decide) ?_
    refine lv_ldc2 (v := (-1)) hx hb hown (hts _ w_234) d_RF_times_20 ?_
    exact W.lret (v := (-1)) hx hb hr (fun t ht hW => ⟨_, rfl, (Or.inr ⟨Or.inl h0, rfl⟩), ht⟩) (fun _ h => absurd h List.not_mem_nil) d_RF_times_23
  · obtain ⟨k, w, hk, ek, b1, b2, b3⟩ := rf_mt_some hM h_2 e_3
    have hPm := rf_pl hP b1 b3
    refine lv_astore_n (lv' := [(3, .ref q_4), (0, .ref x), (1, .int i), (2, .int nn)]) hx hb d_RF_times_5 rfl hl (by decide) rfl (fun ls hl => ?_)
    refine lv_aload_n hx hb d_RF_times_6 rfl (lv_at hl 0 rfl) ?_
    refine lv_ifnull hx hb d_RF_times_7 ?_
    refine lv_iload_n hx hb d_RF_times_10 rfl (lv_at hl 3 rfl) ?_
    refine lv_iconst (v := 0) hx hb d_RF_times_11 (by decide) ?_
    refine lv_ldc (v := 1000000) hx hb hown (hts _ w_233) d_RF_times_12 ?_
    refine vp_callSi (va_Run.run (rf_runS (As := [.int nn, .int 0, .int 1000000]) (rest := []) S0 ml_RF_76 (c_RF_isBetween l D (x_t cW cM) nn 0 1000000) hE trivial ⟨rfl, rfl, Nat.le_of_ble_eq_true rfl, Nat.le_of_ble_eq_true rfl⟩ rfl hl.1 rfl (Nat.le_of_ble_eq_true rfl) d_RF_times_14 ⟨Nat.zero_le _, Nat.zero_le _⟩)) (fun r_5 h_6 => ?_)
    refine lv_if_ne (tgt := 24) hx hb d_RF_times_17 (by decide) (fun c_7 => ?_) (fun c_7 => ?_)
    · refine lv_aload_n hx hb d_RF_times_24 rfl (lv_at hl 0 rfl) ?_
      refine lv_iload_n hx hb d_RF_times_25 rfl (lv_at hl 3 rfl) ?_
      refine lv_i2l hx hb d_RF_times_26 rfl ?_
      refine lv_aload_n hx hb d_RF_times_27 rfl (lv_at hl 0 rfl) ?_
      refine va_getN (D := D) (ci := 2) (v := .long (m_abs (m_p w ra))) (C := "RayField$Meeting") (T := F_Meeting) (N := 5) hx hb hts in_Meeting hown hK hPm 0 rfl rfl 2 (by decide) (va_Nw.use rfl (hE.1.1 _ w_132 rfl)) (fun _ h9 => h9) rfl d_RF_times_28 ?_
      refine lv_lmul hx hb d_RF_times_31 ?_
      refine vp_callSl (va_Run.run (rf_runV (As := [.long (nn.toInt64 * (m_abs (m_p w ra)))]) (rest := []) S0 ml_RF_85 (c_Meeting_roundedDown l D (x_t cW cM) q_4 (nI (g k)) (m_fr w ra) (m_abs (m_p w ra)) (m_abs (m_a w ra)) (m_abs (m_q w ra)) (nn.toInt64 * (m_abs (m_p w ra)))) hE (va_recv hK hPm (ci := 2) (q0 := 0) rfl rfl) hPm ⟨rfl, rfl, Nat.le_of_ble_eq_true rfl, Nat.le_of_ble_eq_true rfl⟩ rfl hl.1 rfl (Nat.le_of_ble_eq_true rfl) d_RF_times_32 ⟨Nat.zero_le _, Nat.zero_le _⟩)) (fun r_8 h_9 => ?_)
      subst h_9
      exact W.lret (v := m_rd (nn.toInt64 * (m_abs (m_p w ra))) (m_abs (m_q w ra))) hx hb hr (fun t ht hW => ⟨_, rfl, (Or.inl ⟨k, w, hk, ek, b2, (h_6.t c_7), rfl⟩), ht⟩) (fun _ h => absurd h List.not_mem_nil) d_RF_times_35
    · refine lv_ldc2 (v := (-1)) hx hb hown (hts _ w_234) d_RF_times_20 ?_
      exact W.lret (v := (-1)) hx hb hr (fun t ht hW => ⟨_, rfl, (Or.inr ⟨Or.inr (h_6.f c_7), rfl⟩), ht⟩) (fun _ h => absurd h List.not_mem_nil) d_RF_times_23
set_option maxHeartbeats 4000000 in
set_option maxRecDepth 100000 in
theorem c_RF_along (l : Launch) (D : va_G) (x wa ma : Nat) (wc mc : Int32) (ry : Option Nat) (cW cM : ClassId) (wf mf : Nat → Option Nat) (L : List Nat) (f : Nat → va_E) (wl : Nat → Option Q4) (ra : Q4) (n : Nat) (g : Nat → Nat) (hn : n ≤ 64) (hmc : mc = nI n) (hM : rf_meets L f mf wl ra n g) (i : Int32) : Met l y_RF_along (.code y_RF_along b_RF_along 3 (some (.int)) :: BIG) { frames := 2, cells := 0, slots := 0, locals := 80 } (rf_Pc D (x_t cW cM) [.ref x, .int i] (fun h => va_P D vwCl (x_3 x wa ma wc mc ry cW cM wf mf ++ va_pl L f) h)) (vp_Si (fun r => (∃ k w, k < n ∧ i = nI k ∧ wl (g k) = some w ∧ r = (m_rd (1024 * m_abs (m_a w ra)) (m_abs (m_q w ra))).toInt32) ∨ ((∀ k, k < n → ¬ i = nI k) ∧ r = -1))) 0 0 (fun _ => False) := by
  refine Met.ofW (cc := b_RF_along) (maxL := 3) (ret := (some (.int))) (by decide) rfl ?_
  intro p e s m args below meth c s₁ B hml hv
  obtain ⟨rfl, hE, hP⟩ := hv
  have hx := B.exec
  have hb := B.bytes
  have hr := B.returns
  have hts : ∀ w ∈ BIG, w.before [.ref x, .int i].toArray s = true := fun w h => atoms_spec (ws := .code y_RF_along b_RF_along 3 (some (.int)) :: BIG) B.pre w (List.mem_cons_of_mem _ h)
  have hown : s.vm.findClass "RayField" = some m.cls := findClass_of_methodNamed B.named
  have hlocks := B.notSynchronized
  have hK := hE.2
  have S0 : CallFix p m c b_RF_along 3 s [.ref x, .int i].toArray BIG "RayField" := ⟨hx, hb, hml, hown, hts⟩
  have hl := lv_entry ([.ref x, .int i]) (n := 3) (Nat.le_of_ble_eq_true rfl)
  rw [lg_entry_eq]
  generalize (lg_sl ([.ref x, .int i]) ++ List.replicate (3 - (lg_sl ([.ref x, .int i])).length) Slot.unset).toArray = ls at hl ⊢
  have hl : lv_has ls 3 [(0, .ref x), (1, .int i)] := hl
  have hP : va_P D vwCl (x_3 x wa ma wc mc ry cW cM wf mf ++ va_pl L f) s.heap := hP
  refine lv_aload_n hx hb d_RF_along_0 rfl (lv_at hl 0 rfl) ?_
  refine lv_iload_n hx hb d_RF_along_1 rfl (lv_at hl 1 rfl) ?_
  refine va_csq (va_Run.run (rf_runV (As := [.int i]) (rest := []) S0 ml_RF_64 (c_RF_meetingAt l D x wa ma wc mc ry cW cM wf mf L f n hn hmc i) hE (va_recv hK hP (ci := 3) (q0 := 0) rfl rfl) hP ⟨rfl, rfl, Nat.le_of_ble_eq_true rfl, Nat.le_of_ble_eq_true rfl⟩ rfl hl.1 rfl (Nat.le_of_ble_eq_true rfl) d_RF_along_2 ⟨Nat.zero_le _, Nat.zero_le _⟩)) (fun r_1 h_2 => ?_)
  refine rf_topq (fun e_3 => ?_) (fun q_4 e_3 => ?_)
  · have h0 := rf_mt_none hM h_2 e_3
    refine lv_astore_nN (lv' := [(2, .null), (0, .ref x), (1, .int i)]) hx hb d_RF_along_5 rfl hl (by decide) rfl (fun ls hl => ?_)
    refine lv_aload_nN hx hb d_RF_along_6 rfl (lv_at hl 0 rfl) ?_
    refine lv_ifnonnullN hx hb d_RF_along_7 ?_
    refine lv_iconst (v := -1) hx hb d_RF_along_10 (by decide) ?_
    refine lv_goto (tgt := 27) hx hb d_RF_along_11 (by decide) ?_
    exact W.iret (v := (-1)) hx hb hr (fun t ht hW => ⟨_, rfl, (Or.inr ⟨h0, rfl⟩), ht⟩) (fun _ h => absurd h List.not_mem_nil) d_RF_along_27
  · obtain ⟨k, w, hk, ek, b1, b2, b3⟩ := rf_mt_some hM h_2 e_3
    have hPm := rf_pl hP b1 b3
    refine lv_astore_n (lv' := [(2, .ref q_4), (0, .ref x), (1, .int i)]) hx hb d_RF_along_5 rfl hl (by decide) rfl (fun ls hl => ?_)
    refine lv_aload_n hx hb d_RF_along_6 rfl (lv_at hl 0 rfl) ?_
    refine lv_ifnonnull (tgt := 14) hx hb d_RF_along_7 (by decide) ?_
    refine lv_aload_n hx hb d_RF_along_14 rfl (lv_at hl 0 rfl) ?_
    refine lv_ldc2 (v := 1024) hx hb hown (hts _ w_247) d_RF_along_15 ?_
    refine lv_aload_n hx hb d_RF_along_18 rfl (lv_at hl 0 rfl) ?_
    refine va_getN (D := D) (ci := 2) (v := .long (m_abs (m_a w ra))) (C := "RayField$Meeting") (T := F_Meeting) (N := 5) hx hb hts in_Meeting hown hK hPm 0 rfl rfl 3 (by decide) (va_Nw.use rfl (hE.1.1 _ w_134 rfl)) (fun _ h9 => h9) rfl d_RF_along_19 ?_
    refine lv_lmul hx hb d_RF_along_22 ?_
    refine vp_callSl (va_Run.run (rf_runV (As := [.long (1024 * (m_abs (m_a w ra)))]) (rest := []) S0 ml_RF_85 (c_Meeting_roundedDown l D (x_t cW cM) q_4 (nI (g k)) (m_fr w ra) (m_abs (m_p w ra)) (m_abs (m_a w ra)) (m_abs (m_q w ra)) (1024 * (m_abs (m_a w ra)))) hE (va_recv hK hPm (ci := 2) (q0 := 0) rfl rfl) hPm ⟨rfl, rfl, Nat.le_of_ble_eq_true rfl, Nat.le_of_ble_eq_true rfl⟩ rfl hl.1 rfl (Nat.le_of_ble_eq_true rfl) d_RF_along_23 ⟨Nat.zero_le _, Nat.zero_le _⟩)) (fun r_5 h_6 => ?_)
    subst h_6
    refine lv_l2i hx hb d_RF_along_26 rfl ?_
    exact W.iret (v := (m_rd (1024 * (m_abs (m_a w ra))) (m_abs (m_q w ra))).toInt32) hx hb hr (fun t ht hW => ⟨_, rfl, (Or.inl ⟨k, w, hk, ek, b2, rfl⟩), ht⟩) (fun _ h => absurd h List.not_mem_nil) d_RF_along_27
set_option maxHeartbeats 4000000 in
set_option maxRecDepth 100000 in
theorem c_RF_of (l : Launch) (D : va_G) (x wa ma : Nat) (wc mc : Int32) (ry : Option Nat) (cW cM : ClassId) (wf mf : Nat → Option Nat) (L : List Nat) (f : Nat → va_E) (wl : Nat → Option Q4) (hw : rf_walls L f wf wl) (i what : Int32) : Met l y_RF_of (.code y_RF_of b_RF_of 4 (some (.int)) :: BIG) { frames := 3, cells := 0, slots := 0, locals := 120 } (rf_Pc D (x_t cW cM) [.ref x, .int i, .int what] (fun h => va_P D vwCl (x_3 x wa ma wc mc ry cW cM wf mf ++ va_pl L f) h)) (vp_Si (fun r => (∃ k, k < 64 ∧ i = nI k ∧ r = m_of (wl k) what) ∨ ((∀ k, k < 64 → ¬ i = nI k) ∧ r = 100000))) 0 0 (fun _ => False) := by
  refine Met.ofW (cc := b_RF_of) (maxL := 4) (ret := (some (.int))) (by decide) rfl ?_
  intro p e s m args below meth c s₁ B hml hv
  obtain ⟨rfl, hE, hP⟩ := hv
  have hx := B.exec
  have hb := B.bytes
  have hr := B.returns
  have hts : ∀ w ∈ BIG, w.before [.ref x, .int i, .int what].toArray s = true := fun w h => atoms_spec (ws := .code y_RF_of b_RF_of 4 (some (.int)) :: BIG) B.pre w (List.mem_cons_of_mem _ h)
  have hown : s.vm.findClass "RayField" = some m.cls := findClass_of_methodNamed B.named
  have hlocks := B.notSynchronized
  have hK := hE.2
  have S0 : CallFix p m c b_RF_of 4 s [.ref x, .int i, .int what].toArray BIG "RayField" := ⟨hx, hb, hml, hown, hts⟩
  have hl := lv_entry ([.ref x, .int i, .int what]) (n := 4) (Nat.le_of_ble_eq_true rfl)
  rw [lg_entry_eq]
  generalize (lg_sl ([.ref x, .int i, .int what]) ++ List.replicate (4 - (lg_sl ([.ref x, .int i, .int what])).length) Slot.unset).toArray = ls at hl ⊢
  have hl : lv_has ls 4 [(0, .ref x), (1, .int i), (2, .int what)] := hl
  have hP : va_P D vwCl (x_3 x wa ma wc mc ry cW cM wf mf ++ va_pl L f) s.heap := hP
  refine lv_aload_n hx hb d_RF_of_0 rfl (lv_at hl 0 rfl) ?_
  refine lv_iload_n hx hb d_RF_of_1 rfl (lv_at hl 1 rfl) ?_
  refine va_csq (va_Run.run (rf_runV (As := [.int i]) (rest := []) S0 ml_RF_47 (c_RF_wallNumbered l D x wa ma wc mc ry cW cM wf mf L f i) hE (va_recv hK hP (ci := 3) (q0 := 0) rfl rfl) hP ⟨rfl, rfl, Nat.le_of_ble_eq_true rfl, Nat.le_of_ble_eq_true rfl⟩ rfl hl.1 rfl (Nat.le_of_ble_eq_true rfl) d_RF_of_2 ⟨Nat.zero_le _, Nat.zero_le _⟩)) (fun r_1 h_2 => ?_)
  refine rf_topq (fun e_3 => ?_) (fun q_4 e_3 => ?_)
  · have h0 := rf_wn_none hw h_2 e_3
    refine lv_astore_nN (lv' := [(3, .null), (0, .ref x), (1, .int i), (2, .int what)]) hx hb d_RF_of_5 rfl hl (by decide) rfl (fun ls hl => ?_)
    refine lv_aload_nN hx hb d_RF_of_6 rfl (lv_at hl 0 rfl) ?_
    refine lv_ifnonnullN hx hb d_RF_of_7 ?_
    refine lv_ldc (v := 100000) hx hb hown (hts _ w_269) d_RF_of_10 ?_
    exact W.iret (v := 100000) hx hb hr (fun t ht hW => ⟨_, rfl, (h0.elim (fun ⟨k, hk, ek, h1⟩ => Or.inl ⟨k, hk, ek, by rw [h1]; rfl⟩) (fun h1 => Or.inr ⟨h1, rfl⟩)), ht⟩) (fun _ h => absurd h List.not_mem_nil) d_RF_of_12
  · obtain ⟨k, w, hk, ek, b0, b1, b2, b3⟩ := rf_wn_some hw h_2 e_3
    have hPw := rf_pl hP b2 b3
    refine lv_astore_n (lv' := [(3, .ref q_4), (0, .ref x), (1, .int i), (2, .int what)]) hx hb d_RF_of_5 rfl hl (by decide) rfl (fun ls hl => ?_)
    refine lv_aload_n hx hb d_RF_of_6 rfl (lv_at hl 0 rfl) ?_
    refine lv_ifnonnull (tgt := 13) hx hb d_RF_of_7 (by decide) ?_
    refine lv_iload_n hx hb d_RF_of_13 rfl (lv_at hl 3 rfl) ?_
    by_cases t0 : what = 0
    · subst t0
      refine lv_tableIn (off := 30) (tgt := 44) hx hb d_RF_of_14 (by decide) (by decide) (by decide) (by decide) ?_
      refine lv_aload_n hx hb d_RF_of_44 rfl (lv_at hl 0 rfl) ?_
      refine va_getN (D := D) (ci := 0) (v := .int w.1) (C := "RayField$Wall") (T := F_Wall) (N := 4) hx hb hts in_Wall hown hK hPw 0 rfl rfl 0 (by decide) (va_Nw.use rfl (hE.1.1 _ w_59 rfl)) (fun _ h9 => h9) rfl d_RF_of_45 ?_
      exact W.iret (v := w.1) hx hb hr (fun t ht hW => ⟨_, rfl, (Or.inl ⟨k, hk, ek, by rw [b1]; rfl⟩), ht⟩) (fun _ h => absurd h List.not_mem_nil) d_RF_of_48
    by_cases t1 : what = 1
    · subst t1
      refine lv_tableIn (off := 35) (tgt := 49) hx hb d_RF_of_14 (by decide) (by decide) (by decide) (by decide) ?_
      refine lv_aload_n hx hb d_RF_of_49 rfl (lv_at hl 0 rfl) ?_
      refine va_getN (D := D) (ci := 0) (v := .int w.2.1) (C := "RayField$Wall") (T := F_Wall) (N := 4) hx hb hts in_Wall hown hK hPw 0 rfl rfl 1 (by decide) (va_Nw.use rfl (hE.1.1 _ w_62 rfl)) (fun _ h9 => h9) rfl d_RF_of_50 ?_
      exact W.iret (v := w.2.1) hx hb hr (fun t ht hW => ⟨_, rfl, (Or.inl ⟨k, hk, ek, by rw [b1]; rfl⟩), ht⟩) (fun _ h => absurd h List.not_mem_nil) d_RF_of_53
    by_cases t2 : what = 2
    · subst t2
      refine lv_tableIn (off := 40) (tgt := 54) hx hb d_RF_of_14 (by decide) (by decide) (by decide) (by decide) ?_
      refine lv_aload_n hx hb d_RF_of_54 rfl (lv_at hl 0 rfl) ?_
      refine va_getN (D := D) (ci := 0) (v := .int w.2.2.1) (C := "RayField$Wall") (T := F_Wall) (N := 4) hx hb hts in_Wall hown hK hPw 0 rfl rfl 2 (by decide) (va_Nw.use rfl (hE.1.1 _ w_65 rfl)) (fun _ h9 => h9) rfl d_RF_of_55 ?_
      exact W.iret (v := w.2.2.1) hx hb hr (fun t ht hW => ⟨_, rfl, (Or.inl ⟨k, hk, ek, by rw [b1]; rfl⟩), ht⟩) (fun _ h => absurd h List.not_mem_nil) d_RF_of_58
    by_cases t3 : what = 3
    · subst t3
      refine lv_tableIn (off := 45) (tgt := 59) hx hb d_RF_of_14 (by decide) (by decide) (by decide) (by decide) ?_
      refine lv_aload_n hx hb d_RF_of_59 rfl (lv_at hl 0 rfl) ?_
      refine va_getN (D := D) (ci := 0) (v := .int w.2.2.2) (C := "RayField$Wall") (T := F_Wall) (N := 4) hx hb hts in_Wall hown hK hPw 0 rfl rfl 3 (by decide) (va_Nw.use rfl (hE.1.1 _ w_68 rfl)) (fun _ h9 => h9) rfl d_RF_of_60 ?_
      exact W.iret (v := w.2.2.2) hx hb hr (fun t ht hW => ⟨_, rfl, (Or.inl ⟨k, hk, ek, by rw [b1]; rfl⟩), ht⟩) (fun _ h => absurd h List.not_mem_nil) d_RF_of_63
    refine lv_tableOut (tgt := 64) hx hb d_RF_of_14 (rf_sw4 t0 t1 t2 t3) (by decide) ?_
    refine lv_ldc (v := 100000) hx hb hown (hts _ w_269) d_RF_of_64 ?_
    exact W.iret (v := 100000) hx hb hr (fun t ht hW => ⟨_, rfl, (Or.inl ⟨k, hk, ek, by rw [b1]; unfold m_of; simp only [if_neg t0, if_neg t1, if_neg t2, if_neg t3]⟩), ht⟩) (fun _ h => absurd h List.not_mem_nil) d_RF_of_66
set_option maxHeartbeats 4000000 in
set_option maxRecDepth 100000 in
theorem c_RF_look (l : Launch) (D : va_G) (x wa ma : Nat) (wc mc : Int32) (ry : Option Nat) (cW cM : ClassId) (wf mf : Nat → Option Nat) (L : List Nat) (f : Nat → va_E) (wh : Int32) : Met l y_RF_look (.code y_RF_look b_RF_look 2 (some (.int)) :: BIG) { frames := 1, cells := 0, slots := 0, locals := 40 } (rf_Pc D (x_t cW cM) [.ref x, .int wh] (fun h => va_P D vwCl (x_3 x wa ma wc mc ry cW cM wf mf ++ va_pl L f) h)) (vp_Si (fun r => (wh = 0 ∧ r = wc) ∨ (wh = 1 ∧ rf_First (fun k => wf k = none) r) ∨ (wh = 2 ∧ rf_tf r (¬ ry = none)) ∨ (¬ wh = 0 ∧ ¬ wh = 1 ∧ ¬ wh = 2 ∧ r = -1))) 0 0 (fun _ => False) := by
  refine Met.ofW (cc := b_RF_look) (maxL := 2) (ret := (some (.int))) (by decide) rfl ?_
  intro p e s m args below meth c s₁ B hml hv
  obtain ⟨rfl, hE, hP⟩ := hv
  have hx := B.exec
  have hb := B.bytes
  have hr := B.returns
  have hts : ∀ w ∈ BIG, w.before [.ref x, .int wh].toArray s = true := fun w h => atoms_spec (ws := .code y_RF_look b_RF_look 2 (some (.int)) :: BIG) B.pre w (List.mem_cons_of_mem _ h)
  have hown : s.vm.findClass "RayField" = some m.cls := findClass_of_methodNamed B.named
  have hlocks := B.notSynchronized
  have hK := hE.2
  have S0 : CallFix p m c b_RF_look 2 s [.ref x, .int wh].toArray BIG "RayField" := ⟨hx, hb, hml, hown, hts⟩
  have hl := lv_entry ([.ref x, .int wh]) (n := 2) (Nat.le_of_ble_eq_true rfl)
  rw [lg_entry_eq]
  generalize (lg_sl ([.ref x, .int wh]) ++ List.replicate (2 - (lg_sl ([.ref x, .int wh])).length) Slot.unset).toArray = ls at hl ⊢
  have hl : lv_has ls 2 [(0, .ref x), (1, .int wh)] := hl
  have hP : va_P D vwCl (x_3 x wa ma wc mc ry cW cM wf mf ++ va_pl L f) s.heap := hP
  refine lv_iload_n hx hb d_RF_look_0 rfl (lv_at hl 1 rfl) ?_
  by_cases t0 : wh = 0
  · subst t0
    refine lv_tableIn (off := 27) (tgt := 28) hx hb d_RF_look_1 (by decide) (by decide) (by decide) (by decide) ?_
    refine lv_aload_n hx hb d_RF_look_28 rfl (lv_at hl 0 rfl) ?_
    refine va_get (D := D) (ci := 3) (v := .int wc) (C := "RayField") (T := F_RF) (N := 5) hx hb hts in_RF hown hK hP 0 rfl rfl 1 (by decide) (hts _ w_20) (fun _ h9 => h9) rfl d_RF_look_29 ?_
    exact W.iret (v := wc) hx hb hr (fun t ht hW => ⟨_, rfl, (Or.inl ⟨rfl, rfl⟩), ht⟩) (fun _ h => absurd h List.not_mem_nil) d_RF_look_32
  by_cases t1 : wh = 1
  · subst t1
    refine lv_tableIn (off := 32) (tgt := 33) hx hb d_RF_look_1 (by decide) (by decide) (by decide) (by decide) ?_
    refine lv_aload_n hx hb d_RF_look_33 rfl (lv_at hl 0 rfl) ?_
    refine vp_callSi (va_Run.run (rf_runV (As := []) (rest := []) S0 ml_RF_25 (c_RF_least l D x wa ma wc mc ry cW cM wf mf L f) hE (va_recv hK hP (ci := 3) (q0 := 0) rfl rfl) hP ⟨rfl, rfl, Nat.le_of_ble_eq_true rfl, Nat.le_of_ble_eq_true rfl⟩ rfl hl.1 rfl (Nat.le_of_ble_eq_true rfl) d_RF_look_34 ⟨Nat.zero_le _, Nat.zero_le _⟩)) (fun r_1 h_2 => ?_)
    exact W.iret (v := r_1) hx hb hr (fun t ht hW => ⟨_, rfl, (Or.inr (Or.inl ⟨rfl, h_2⟩)), ht⟩) (fun _ h => absurd h List.not_mem_nil) d_RF_look_37
  by_cases t2 : wh = 2
  · subst t2
    refine lv_tableIn (off := 37) (tgt := 38) hx hb d_RF_look_1 (by decide) (by decide) (by decide) (by decide) ?_
    refine lv_aload_n hx hb d_RF_look_38 rfl (lv_at hl 0 rfl) ?_
    refine va_get (D := D) (ci := 3) (v := va_rf ry) (C := "RayField") (T := F_RF) (N := 5) hx hb hts in_RF hown hK hP 0 rfl rfl 2 (by decide) (hts _ w_21) (fun _ h9 => h9) rfl d_RF_look_39 ?_
    refine rf_topq (fun e_3 => ?_) (fun q_4 e_3 => ?_)
    · refine lv_ifnonnullN hx hb d_RF_look_42 ?_
      refine lv_iconst (v := 0) hx hb d_RF_look_45 (by decide) ?_
      refine lv_goto (tgt := 50) hx hb d_RF_look_46 (by decide) ?_
      exact W.iret (v := 0) hx hb hr (fun t ht hW => ⟨_, rfl, (Or.inr (Or.inr (Or.inl ⟨rfl, rf_F (fun z => z e_3)⟩))), ht⟩) (fun _ h => absurd h List.not_mem_nil) d_RF_look_50
    · refine lv_ifnonnull (tgt := 49) hx hb d_RF_look_42 (by decide) ?_
      refine lv_iconst (v := 1) hx hb d_RF_look_49 (by decide) ?_
      exact W.iret (v := 1) hx hb hr (fun t ht hW => ⟨_, rfl, (Or.inr (Or.inr (Or.inl ⟨rfl, rf_T (fun z => by rw [e_3] at z; cases z)⟩))), ht⟩) (fun _ h => absurd h List.not_mem_nil) d_RF_look_50
  refine lv_tableOut (tgt := 51) hx hb d_RF_look_1 (rf_sw3 t0 t1 t2) (by decide) ?_
  refine lv_iconst (v := -1) hx hb d_RF_look_51 (by decide) ?_
  exact W.iret (v := (-1)) hx hb hr (fun t ht hW => ⟨_, rfl, (Or.inr (Or.inr (Or.inr ⟨t0, t1, t2, rfl⟩))), ht⟩) (fun _ h => absurd h List.not_mem_nil) d_RF_look_52
