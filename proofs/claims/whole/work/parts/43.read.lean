set_option maxHeartbeats 4000000 in
set_option maxRecDepth 100000 in
theorem c_RF_least (l : Launch) (D : va_G) (x wa ma : Nat) (wc mc : Int32) (ry : Option Nat) (cW cM : ClassId) (wf mf : Nat → Option Nat) (L : List Nat) (f : Nat → va_E) : Met l y_RF_leastFreeNumber (.code y_RF_leastFreeNumber b_RF_leastFreeNumber 2 (some (.int)) :: BIG) { frames := 0, cells := 0, slots := 0, locals := 0 } (rf_Pc D (x_t cW cM) [.ref x] (fun h => va_P D vwCl (x_3 x wa ma wc mc ry cW cM wf mf ++ va_pl L f) h)) (vp_Si (fun r => rf_First (fun k => wf k = none) r)) 0 0 (fun _ => False) := by
  refine Met.ofW (cc := b_RF_leastFreeNumber) (maxL := 2) (ret := (some (.int))) (by decide) rfl ?_
  intro p e s m args below meth c s₁ B hml hv
  obtain ⟨rfl, hE, hP⟩ := hv
  have hx := B.exec
  have hb := B.bytes
  have hr := B.returns
  have hts : ∀ w ∈ BIG, w.before [.ref x].toArray s = true := fun w h => atoms_spec (ws := .code y_RF_leastFreeNumber b_RF_leastFreeNumber 2 (some (.int)) :: BIG) B.pre w (List.mem_cons_of_mem _ h)
  have hown : s.vm.findClass "RayField" = some m.cls := findClass_of_methodNamed B.named
  have hlocks := B.notSynchronized
  have hK := hE.2
  have S0 : CallFix p m c b_RF_leastFreeNumber 2 s [.ref x].toArray BIG "RayField" := ⟨hx, hb, hml, hown, hts⟩
  have hl := lv_entry ([.ref x]) (n := 2) (Nat.le_of_ble_eq_true rfl)
  rw [lg_entry_eq]
  generalize (lg_sl ([.ref x]) ++ List.replicate (2 - (lg_sl ([.ref x])).length) Slot.unset).toArray = ls at hl ⊢
  have hl : lv_has ls 2 [(0, .ref x)] := hl
  have hP : va_P D vwCl (x_3 x wa ma wc mc ry cW cM wf mf ++ va_pl L f) s.heap := hP
  refine lv_iconst (v := 0) hx hb d_RF_leastFreeNumber_0 (by decide) ?_
  refine rf_topi nI_0.symm ?_
  refine lv_istore_n (lv' := [(1, .int (nI 0)), (0, .ref x)]) hx hb d_RF_leastFreeNumber_1 rfl hl (by decide) rfl (fun ls hl => ?_)
  refine rf_loopP 2 64 (fun i ls => lv_has ls 2 [(1, .int (nI i)), (0, .ref x)] ∧ (∀ j, j < i → ¬ wf j = none)) (fun ls hI => ?_) (fun i ls hi hI hk => ?_) 0 (Nat.zero_le _) ⟨lv_sub hl [0, 1] rfl, fun j hj => absurd hj (Nat.not_lt_zero _)⟩
  · obtain ⟨hl, hJ⟩ := hI
    refine lv_iload_n hx hb d_RF_leastFreeNumber_2 rfl (lv_at hl 0 rfl) ?_
    refine lv_aload_n hx hb d_RF_leastFreeNumber_3 rfl (lv_at hl 1 rfl) ?_
    refine va_get (D := D) (ci := 3) (v := .ref wa) (C := "RayField") (T := F_RF) (N := 5) hx hb hts in_RF hown hK hP 0 rfl rfl 0 (by decide) (hts _ w_19) (fun _ h9 => h9) rfl d_RF_leastFreeNumber_4 ?_
    refine va_alen hx hb hK hP 1 0 rfl rfl (v := nI 64) rfl d_RF_leastFreeNumber_7 ?_
    refine lv_icmp_ge (tgt := 28) hx hb d_RF_leastFreeNumber_8 (by decide) (fun c_1 => ?_) (fun c_1 => absurd (nI_le (Nat.le_refl _) (by decide)) c_1)
    refine lv_iconst (v := -1) hx hb d_RF_leastFreeNumber_28 (by decide) ?_
    exact W.iret (v := (-1)) hx hb hr (fun t ht hW => ⟨_, rfl, (Or.inr ⟨rfl, hJ⟩), ht⟩) (fun _ h => absurd h List.not_mem_nil) d_RF_leastFreeNumber_29
  · obtain ⟨hl, hJ⟩ := hI
    refine lv_iload_n hx hb d_RF_leastFreeNumber_2 rfl (lv_at hl 0 rfl) ?_
    refine lv_aload_n hx hb d_RF_leastFreeNumber_3 rfl (lv_at hl 1 rfl) ?_
    refine va_get (D := D) (ci := 3) (v := .ref wa) (C := "RayField") (T := F_RF) (N := 5) hx hb hts in_RF hown hK hP 0 rfl rfl 0 (by decide) (hts _ w_19) (fun _ h9 => h9) rfl d_RF_leastFreeNumber_4 ?_
    refine va_alen hx hb hK hP 1 0 rfl rfl (v := nI 64) rfl d_RF_leastFreeNumber_7 ?_
    refine lv_icmp_ge (tgt := 28) hx hb d_RF_leastFreeNumber_8 (by decide) (fun c_2 => absurd c_2 (nI_ge hi (by decide))) (fun c_2 => ?_)
    refine lv_aload_n hx hb d_RF_leastFreeNumber_11 rfl (lv_at hl 1 rfl) ?_
    refine va_get (D := D) (ci := 3) (v := .ref wa) (C := "RayField") (T := F_RF) (N := 5) hx hb hts in_RF hown hK hP 0 rfl rfl 0 (by decide) (hts _ w_19) (fun _ h9 => h9) rfl d_RF_leastFreeNumber_12 ?_
    refine lv_iload_n hx hb d_RF_leastFreeNumber_15 rfl (lv_at hl 0 rfl) ?_
    refine rf_aldq hx hb hK hP 1 0 rfl rfl hi (by decide) d_RF_leastFreeNumber_16 ?_
    refine rf_topq (fun e_3 => ?_) (fun q_4 e_3 => ?_)
    · refine lv_ifnonnullN hx hb d_RF_leastFreeNumber_17 ?_
      refine lv_iload_n hx hb d_RF_leastFreeNumber_20 rfl (lv_at hl 0 rfl) ?_
      exact W.iret (v := nI i) hx hb hr (fun t ht hW => ⟨_, rfl, (Or.inl ⟨i, hi, rfl, e_3, hJ⟩), ht⟩) (fun _ h => absurd h List.not_mem_nil) d_RF_leastFreeNumber_21
    · refine lv_ifnonnull (tgt := 22) hx hb d_RF_leastFreeNumber_17 (by decide) ?_
      refine lv_iinc (v := (nI (i + 1))) (lv' := [(1, .int (nI (i + 1))), (0, .ref x)]) hx hb d_RF_leastFreeNumber_22 hl (k := 0) rfl (nI_1 i) (by decide) rfl (fun ls hl => ?_)
      refine lv_goto (tgt := 2) hx hb d_RF_leastFreeNumber_25 (by decide) ?_
      exact hk _ ⟨lv_sub hl [0, 1] rfl, lt_s hJ (fun z => by rw [e_3] at z; cases z)⟩
set_option maxHeartbeats 4000000 in
set_option maxRecDepth 100000 in
theorem c_RF_wallNumbered (l : Launch) (D : va_G) (x wa ma : Nat) (wc mc : Int32) (ry : Option Nat) (cW cM : ClassId) (wf mf : Nat → Option Nat) (L : List Nat) (f : Nat → va_E) (i : Int32) : Met l y_RF_wallNumbered (.code y_RF_wallNumbered b_RF_wallNumbered 2 (some (.object "RayField$Wall")) :: BIG) { frames := 2, cells := 0, slots := 0, locals := 80 } (rf_Pc D (x_t cW cM) [.ref x, .int i] (fun h => va_P D vwCl (x_3 x wa ma wc mc ry cW cM wf mf ++ va_pl L f) h)) (va_Sq (fun r => (∃ k, k < 64 ∧ i = nI k ∧ r = wf k) ∨ ((∀ k, k < 64 → ¬ i = nI k) ∧ r = none))) 0 0 (fun _ => False) := by
  refine Met.ofW (cc := b_RF_wallNumbered) (maxL := 2) (ret := (some (.object "RayField$Wall"))) (by decide) rfl ?_
  intro p e s m args below meth c s₁ B hml hv
  obtain ⟨rfl, hE, hP⟩ := hv
  have hx := B.exec
  have hb := B.bytes
  have hr := B.returns
  have hts : ∀ w ∈ BIG, w.before [.ref x, .int i].toArray s = true := fun w h => atoms_spec (ws := .code y_RF_wallNumbered b_RF_wallNumbered 2 (some (.object "RayField$Wall")) :: BIG) B.pre w (List.mem_cons_of_mem _ h)
  have hown : s.vm.findClass "RayField" = some m.cls := findClass_of_methodNamed B.named
  have hlocks := B.notSynchronized
  have hK := hE.2
  have S0 : CallFix p m c b_RF_wallNumbered 2 s [.ref x, .int i].toArray BIG "RayField" := ⟨hx, hb, hml, hown, hts⟩
  have hl := lv_entry ([.ref x, .int i]) (n := 2) (Nat.le_of_ble_eq_true rfl)
  rw [lg_entry_eq]
  generalize (lg_sl ([.ref x, .int i]) ++ List.replicate (2 - (lg_sl ([.ref x, .int i])).length) Slot.unset).toArray = ls at hl ⊢
  have hl : lv_has ls 2 [(0, .ref x), (1, .int i)] := hl
  have hP : va_P D vwCl (x_3 x wa ma wc mc ry cW cM wf mf ++ va_pl L f) s.heap := hP
  refine lv_iload_n hx hb d_RF_wallNumbered_0 rfl (lv_at hl 1 rfl) ?_
  refine vp_callSi (va_Run.run (rf_runS (As := [.int i]) (rest := []) S0 ml_RF_29 (c_RF_isNumber l D (x_t cW cM) i) hE trivial ⟨rfl, rfl, Nat.le_of_ble_eq_true rfl, Nat.le_of_ble_eq_true rfl⟩ rfl hl.1 rfl (Nat.le_of_ble_eq_true rfl) d_RF_wallNumbered_1 ⟨Nat.zero_le _, Nat.zero_le _⟩)) (fun r_1 h_2 => ?_)
  refine lv_if_eq (tgt := 16) hx hb d_RF_wallNumbered_4 (by decide) (fun c_3 => ?_) (fun c_3 => ?_)
  · refine lv_null hx hb d_RF_wallNumbered_16 ?_
    exact W.aret (v := va_rf (none)) hx hb hr (Or.inl ⟨_, rfl⟩) (va_rf_or _) (fun t ht hW => ⟨none, rfl, (Or.inr ⟨rf_btw63n (h_2.f c_3), rfl⟩), ht⟩) (fun _ h => absurd h List.not_mem_nil) d_RF_wallNumbered_17
  · obtain ⟨k, hk, ek⟩ := rf_btw63 (h_2.t c_3)
    subst ek
    refine lv_aload_n hx hb d_RF_wallNumbered_7 rfl (lv_at hl 0 rfl) ?_
    refine va_get (D := D) (ci := 3) (v := .ref wa) (C := "RayField") (T := F_RF) (N := 5) hx hb hts in_RF hown hK hP 0 rfl rfl 0 (by decide) (hts _ w_19) (fun _ h9 => h9) rfl d_RF_wallNumbered_8 ?_
    refine lv_iload_n hx hb d_RF_wallNumbered_11 rfl (lv_at hl 1 rfl) ?_
    refine rf_aldq hx hb hK hP 1 0 rfl rfl hk (by decide) d_RF_wallNumbered_12 ?_
    refine rf_topq (fun e_4 => ?_) (fun q_5 e_4 => ?_)
    · refine lv_goto (tgt := 17) hx hb d_RF_wallNumbered_13 (by decide) ?_
      exact W.aret (v := va_rf (none)) hx hb hr (Or.inl ⟨_, rfl⟩) (va_rf_or _) (fun t ht hW => ⟨none, rfl, (Or.inl ⟨k, hk, rfl, e_4.symm⟩), ht⟩) (fun _ h => absurd h List.not_mem_nil) d_RF_wallNumbered_17
    · refine lv_goto (tgt := 17) hx hb d_RF_wallNumbered_13 (by decide) ?_
      exact W.aret (v := va_rf (some q_5)) hx hb hr (Or.inl ⟨_, rfl⟩) (va_rf_or _) (fun t ht hW => ⟨some q_5, rfl, (Or.inl ⟨k, hk, rfl, e_4.symm⟩), ht⟩) (fun _ h => absurd h List.not_mem_nil) d_RF_wallNumbered_17
set_option maxHeartbeats 4000000 in
set_option maxRecDepth 100000 in
theorem c_RF_clashes (l : Launch) (D : va_G) (x wa ma : Nat) (wc mc : Int32) (ry : Option Nat) (cW cM : ClassId) (wf mf : Nat → Option Nat) (L : List Nat) (f : Nat → va_E) (wl : Nat → Option Q4) (hw : rf_walls L f wf wl) (qv : Nat) (v : Q4) (hq : qv ∈ L) (hqf : f qv = e_W v) : Met l y_RF_clashes (.code y_RF_clashes b_RF_clashes 4 (some (.boolean)) :: BIG) { frames := 4, cells := 0, slots := 0, locals := 160 } (rf_Pc D (x_t cW cM) [.ref x, .ref qv] (fun h => va_P D vwCl (x_3 x wa ma wc mc ry cW cM wf mf ++ va_pl L f) h)) (vp_Si (fun r => rf_tf r (∃ k, k < 64 ∧ ∃ w, wl k = some w ∧ m_clash v w))) 0 0 (fun _ => False) := by
  refine Met.ofW (cc := b_RF_clashes) (maxL := 4) (ret := (some (.boolean))) (by decide) rfl ?_
  intro p e s m args below meth c s₁ B hml hv
  obtain ⟨rfl, hE, hP⟩ := hv
  have hx := B.exec
  have hb := B.bytes
  have hr := B.returns
  have hts : ∀ w ∈ BIG, w.before [.ref x, .ref qv].toArray s = true := fun w h => atoms_spec (ws := .code y_RF_clashes b_RF_clashes 4 (some (.boolean)) :: BIG) B.pre w (List.mem_cons_of_mem _ h)
  have hown : s.vm.findClass "RayField" = some m.cls := findClass_of_methodNamed B.named
  have hlocks := B.notSynchronized
  have hK := hE.2
  have S0 : CallFix p m c b_RF_clashes 4 s [.ref x, .ref qv].toArray BIG "RayField" := ⟨hx, hb, hml, hown, hts⟩
  have hl := lv_entry ([.ref x, .ref qv]) (n := 4) (Nat.le_of_ble_eq_true rfl)
  rw [lg_entry_eq]
  generalize (lg_sl ([.ref x, .ref qv]) ++ List.replicate (4 - (lg_sl ([.ref x, .ref qv])).length) Slot.unset).toArray = ls at hl ⊢
  have hl : lv_has ls 4 [(0, .ref x), (1, .ref qv)] := hl
  have hP : va_P D vwCl (x_3 x wa ma wc mc ry cW cM wf mf ++ va_pl L f) s.heap := hP
  have hPv := rf_pl hP hq hqf
  refine lv_iconst (v := 0) hx hb d_RF_clashes_0 (by decide) ?_
  refine rf_topi nI_0.symm ?_
  refine lv_istore_n (lv' := [(2, .int (nI 0)), (0, .ref x), (1, .ref qv)]) hx hb d_RF_clashes_1 rfl hl (by decide) rfl (fun ls hl => ?_)
  refine rf_loopP 2 64 (fun i ls => lv_has ls 4 [(2, .int (nI i)), (0, .ref x), (1, .ref qv)] ∧ (∀ j, j < i → ∀ w, wl j = some w → ¬ m_clash v w)) (fun ls hI => ?_) (fun i ls hi hI hk => ?_) 0 (Nat.zero_le _) ⟨lv_sub hl [0, 1, 2] rfl, fun j hj => absurd hj (Nat.not_lt_zero _)⟩
  · obtain ⟨hl, hJ⟩ := hI
    refine lv_iload_n hx hb d_RF_clashes_2 rfl (lv_at hl 0 rfl) ?_
    refine lv_aload_n hx hb d_RF_clashes_3 rfl (lv_at hl 1 rfl) ?_
    refine va_get (D := D) (ci := 3) (v := .ref wa) (C := "RayField") (T := F_RF) (N := 5) hx hb hts in_RF hown hK hP 0 rfl rfl 0 (by decide) (hts _ w_19) (fun _ h9 => h9) rfl d_RF_clashes_4 ?_
    refine va_alen hx hb hK hP 1 0 rfl rfl (v := nI 64) rfl d_RF_clashes_7 ?_
    refine lv_icmp_ge (tgt := 38) hx hb d_RF_clashes_8 (by decide) (fun c_1 => ?_) (fun c_1 => absurd (nI_le (Nat.le_refl _) (by decide)) c_1)
    refine lv_iconst (v := 0) hx hb d_RF_clashes_38 (by decide) ?_
    exact W.zret (v := 0) (ty := .boolean) hx hb hr rfl (fun t ht hW => ⟨_, rfl, (rf_F (fun ⟨k, hk, w0, h1, h2⟩ => hJ k hk w0 h1 h2)), ht⟩) (fun _ h => absurd h List.not_mem_nil) d_RF_clashes_39
  · obtain ⟨hl, hJ⟩ := hI
    refine lv_iload_n hx hb d_RF_clashes_2 rfl (lv_at hl 0 rfl) ?_
    refine lv_aload_n hx hb d_RF_clashes_3 rfl (lv_at hl 1 rfl) ?_
    refine va_get (D := D) (ci := 3) (v := .ref wa) (C := "RayField") (T := F_RF) (N := 5) hx hb hts in_RF hown hK hP 0 rfl rfl 0 (by decide) (hts _ w_19) (fun _ h9 => h9) rfl d_RF_clashes_4 ?_
    refine va_alen hx hb hK hP 1 0 rfl rfl (v := nI 64) rfl d_RF_clashes_7 ?_
    refine lv_icmp_ge (tgt := 38) hx hb d_RF_clashes_8 (by decide) (fun c_2 => absurd c_2 (nI_ge hi (by decide))) (fun c_2 => ?_)
    refine lv_aload_n hx hb d_RF_clashes_11 rfl (lv_at hl 1 rfl) ?_
    refine va_get (D := D) (ci := 3) (v := .ref wa) (C := "RayField") (T := F_RF) (N := 5) hx hb hts in_RF hown hK hP 0 rfl rfl 0 (by decide) (hts _ w_19) (fun _ h9 => h9) rfl d_RF_clashes_12 ?_
    refine lv_iload_n hx hb d_RF_clashes_15 rfl (lv_at hl 0 rfl) ?_
    refine rf_aldq hx hb hK hP 1 0 rfl rfl hi (by decide) d_RF_clashes_16 ?_
    refine rf_topq (fun e_3 => ?_) (fun q_4 e_3 => ?_)
    · refine lv_astore_nN (lv' := [(3, .null), (2, .int (nI i)), (0, .ref x), (1, .ref qv)]) hx hb d_RF_clashes_17 rfl hl (by decide) rfl (fun ls hl => ?_)
      refine lv_aload_nN hx hb d_RF_clashes_18 rfl (lv_at hl 0 rfl) ?_
      refine lv_ifnullN (tgt := 32) hx hb d_RF_clashes_19 (by decide) ?_
      refine lv_iinc (v := (nI (i + 1))) (lv' := [(2, .int (nI (i + 1))), (3, .null), (0, .ref x), (1, .ref qv)]) hx hb d_RF_clashes_32 hl (k := 1) rfl (nI_1 i) (by decide) rfl (fun ls hl => ?_)
      refine lv_goto (tgt := 2) hx hb d_RF_clashes_35 (by decide) ?_
      exact hk _ ⟨lv_sub hl [0, 2, 3] rfl, lt_s hJ (fun w0 z => by rw [hw.non hi e_3] at z; cases z)⟩
    · obtain ⟨w_5, a_6, a_7, a_8⟩ := hw.get hi e_3
      have hP_9 := rf_pl hP a_7 a_8
      refine lv_astore_n (lv' := [(3, .ref q_4), (2, .int (nI i)), (0, .ref x), (1, .ref qv)]) hx hb d_RF_clashes_17 rfl hl (by decide) rfl (fun ls hl => ?_)
      refine lv_aload_n hx hb d_RF_clashes_18 rfl (lv_at hl 0 rfl) ?_
      refine lv_ifnull hx hb d_RF_clashes_19 ?_
      refine lv_aload_n hx hb d_RF_clashes_22 rfl (lv_at hl 3 rfl) ?_
      refine lv_aload_n hx hb d_RF_clashes_23 rfl (lv_at hl 0 rfl) ?_
      refine vp_callSi (va_Run.run (rf_runV (As := [.ref q_4]) (rest := []) S0 ml_RF_115 (c_Wall_clashesWith l D (x_t cW cM) qv q_4 v w_5) hE (va_recv hK hPv (ci := 0) (q0 := 0) rfl rfl) (va_P.app hPv hP_9) ⟨rfl, rfl, Nat.le_of_ble_eq_true rfl, Nat.le_of_ble_eq_true rfl⟩ rfl hl.1 rfl (Nat.le_of_ble_eq_true rfl) d_RF_clashes_24 ⟨Nat.zero_le _, Nat.zero_le _⟩)) (fun r_10 h_11 => ?_)
      refine lv_if_eq (tgt := 32) hx hb d_RF_clashes_27 (by decide) (fun c_12 => ?_) (fun c_12 => ?_)
      · refine lv_iinc (v := (nI (i + 1))) (lv' := [(2, .int (nI (i + 1))), (3, .ref q_4), (0, .ref x), (1, .ref qv)]) hx hb d_RF_clashes_32 hl (k := 1) rfl (nI_1 i) (by decide) rfl (fun ls hl => ?_)
        refine lv_goto (tgt := 2) hx hb d_RF_clashes_35 (by decide) ?_
        exact hk _ ⟨lv_sub hl [0, 2, 3] rfl, lt_s hJ (fun w0 z => by rw [a_6] at z; cases z; exact (h_11.f c_12))⟩
      · refine lv_iconst (v := 1) hx hb d_RF_clashes_30 (by decide) ?_
        exact W.zret (v := 1) (ty := .boolean) hx hb hr rfl (fun t ht hW => ⟨_, rfl, (rf_T ⟨i, hi, w_5, a_6, (h_11.t c_12)⟩), ht⟩) (fun _ h => absurd h List.not_mem_nil) d_RF_clashes_31
set_option maxHeartbeats 4000000 in
set_option maxRecDepth 100000 in
theorem c_RF_on (l : Launch) (D : va_G) (x wa ma : Nat) (wc mc : Int32) (ry : Option Nat) (cW cM : ClassId) (wf mf : Nat → Option Nat) (L : List Nat) (f : Nat → va_E) (wl : Nat → Option Q4) (hw : rf_walls L f wf wl) (px py : Int32) : Met l y_RF_on (.code y_RF_on b_RF_on 5 (some (.int)) :: BIG) { frames := 3, cells := 0, slots := 0, locals := 120 } (rf_Pc D (x_t cW cM) [.ref x, .int px, .int py] (fun h => va_P D vwCl (x_3 x wa ma wc mc ry cW cM wf mf ++ va_pl L f) h)) (vp_Si (fun r => (m_place px py 4000 ∧ rf_First (fun k => ∃ w, wl k = some w ∧ m_cov w px py) r) ∨ (¬ m_place px py 4000 ∧ r = -1))) 0 0 (fun _ => False) := by
  refine Met.ofW (cc := b_RF_on) (maxL := 5) (ret := (some (.int))) (by decide) rfl ?_
  intro p e s m args below meth c s₁ B hml hv
  obtain ⟨rfl, hE, hP⟩ := hv
  have hx := B.exec
  have hb := B.bytes
  have hr := B.returns
  have hts : ∀ w ∈ BIG, w.before [.ref x, .int px, .int py].toArray s = true := fun w h => atoms_spec (ws := .code y_RF_on b_RF_on 5 (some (.int)) :: BIG) B.pre w (List.mem_cons_of_mem _ h)
  have hown : s.vm.findClass "RayField" = some m.cls := findClass_of_methodNamed B.named
  have hlocks := B.notSynchronized
  have hK := hE.2
  have S0 : CallFix p m c b_RF_on 5 s [.ref x, .int px, .int py].toArray BIG "RayField" := ⟨hx, hb, hml, hown, hts⟩
  have hl := lv_entry ([.ref x, .int px, .int py]) (n := 5) (Nat.le_of_ble_eq_true rfl)
  rw [lg_entry_eq]
  generalize (lg_sl ([.ref x, .int px, .int py]) ++ List.replicate (5 - (lg_sl ([.ref x, .int px, .int py])).length) Slot.unset).toArray = ls at hl ⊢
  have hl : lv_has ls 5 [(0, .ref x), (1, .int px), (2, .int py)] := hl
  have hP : va_P D vwCl (x_3 x wa ma wc mc ry cW cM wf mf ++ va_pl L f) s.heap := hP
  refine lv_iload_n hx hb d_RF_on_0 rfl (lv_at hl 1 rfl) ?_
  refine lv_iload_n hx hb d_RF_on_1 rfl (lv_at hl 2 rfl) ?_
  refine lv_sipush (v := 4000) hx hb d_RF_on_2 (by decide) ?_
  refine vp_callSi (va_Run.run (rf_runS (As := [.int px, .int py, .int 4000]) (rest := []) S0 ml_RF_21 (c_RF_isPlace l D (x_t cW cM) px py 4000) hE trivial ⟨rfl, rfl, Nat.le_of_ble_eq_true rfl, Nat.le_of_ble_eq_true rfl⟩ rfl hl.1 rfl (Nat.le_of_ble_eq_true rfl) d_RF_on_5 ⟨Nat.zero_le _, Nat.zero_le _⟩)) (fun r_1 h_2 => ?_)
  refine lv_if_ne (tgt := 13) hx hb d_RF_on_8 (by decide) (fun c_3 => ?_) (fun c_3 => ?_)
  · refine lv_iconst (v := 0) hx hb d_RF_on_13 (by decide) ?_
    refine rf_topi nI_0.symm ?_
    refine lv_istore_n (lv' := [(3, .int (nI 0)), (0, .ref x), (1, .int px), (2, .int py)]) hx hb d_RF_on_14 rfl hl (by decide) rfl (fun ls hl => ?_)
    refine rf_loopP 15 64 (fun i ls => lv_has ls 5 [(3, .int (nI i)), (0, .ref x), (1, .int px), (2, .int py)] ∧ (∀ j, j < i → ¬ ∃ w, wl j = some w ∧ m_cov w px py)) (fun ls hI => ?_) (fun i ls hi hI hk => ?_) 0 (Nat.zero_le _) ⟨lv_sub hl [0, 1, 2, 3] rfl, fun j hj => absurd hj (Nat.not_lt_zero _)⟩
    · obtain ⟨hl, hJ⟩ := hI
      refine lv_iload_n hx hb d_RF_on_15 rfl (lv_at hl 0 rfl) ?_
      refine lv_aload_n hx hb d_RF_on_16 rfl (lv_at hl 1 rfl) ?_
      refine va_get (D := D) (ci := 3) (v := .ref wa) (C := "RayField") (T := F_RF) (N := 5) hx hb hts in_RF hown hK hP 0 rfl rfl 0 (by decide) (hts _ w_19) (fun _ h9 => h9) rfl d_RF_on_17 ?_
      refine va_alen hx hb hK hP 1 0 rfl rfl (v := nI 64) rfl d_RF_on_20 ?_
      refine lv_icmp_ge (tgt := 55) hx hb d_RF_on_21 (by decide) (fun c_4 => ?_) (fun c_4 => absurd (nI_le (Nat.le_refl _) (by decide)) c_4)
      refine lv_iconst (v := -1) hx hb d_RF_on_55 (by decide) ?_
      exact W.iret (v := (-1)) hx hb hr (fun t ht hW => ⟨_, rfl, (Or.inl ⟨(h_2.t c_3), Or.inr ⟨rfl, hJ⟩⟩), ht⟩) (fun _ h => absurd h List.not_mem_nil) d_RF_on_56
    · obtain ⟨hl, hJ⟩ := hI
      refine lv_iload_n hx hb d_RF_on_15 rfl (lv_at hl 0 rfl) ?_
      refine lv_aload_n hx hb d_RF_on_16 rfl (lv_at hl 1 rfl) ?_
      refine va_get (D := D) (ci := 3) (v := .ref wa) (C := "RayField") (T := F_RF) (N := 5) hx hb hts in_RF hown hK hP 0 rfl rfl 0 (by decide) (hts _ w_19) (fun _ h9 => h9) rfl d_RF_on_17 ?_
      refine va_alen hx hb hK hP 1 0 rfl rfl (v := nI 64) rfl d_RF_on_20 ?_
      refine lv_icmp_ge (tgt := 55) hx hb d_RF_on_21 (by decide) (fun c_5 => absurd c_5 (nI_ge hi (by decide))) (fun c_5 => ?_)
      refine lv_aload_n hx hb d_RF_on_24 rfl (lv_at hl 1 rfl) ?_
      refine va_get (D := D) (ci := 3) (v := .ref wa) (C := "RayField") (T := F_RF) (N := 5) hx hb hts in_RF hown hK hP 0 rfl rfl 0 (by decide) (hts _ w_19) (fun _ h9 => h9) rfl d_RF_on_25 ?_
      refine lv_iload_n hx hb d_RF_on_28 rfl (lv_at hl 0 rfl) ?_
      refine rf_aldq hx hb hK hP 1 0 rfl rfl hi (by decide) d_RF_on_29 ?_
      refine rf_topq (fun e_6 => ?_) (fun q_7 e_6 => ?_)
      · refine lv_astoreN (lv' := [(4, .null), (3, .int (nI i)), (0, .ref x), (1, .int px), (2, .int py)]) hx hb d_RF_on_30 hl (by decide) rfl (fun ls hl => ?_)
        refine lv_aloadN hx hb d_RF_on_32 (lv_at hl 0 rfl) ?_
        refine lv_ifnullN (tgt := 49) hx hb d_RF_on_34 (by decide) ?_
        refine lv_iinc (v := (nI (i + 1))) (lv' := [(3, .int (nI (i + 1))), (4, .null), (0, .ref x), (1, .int px), (2, .int py)]) hx hb d_RF_on_49 hl (k := 1) rfl (nI_1 i) (by decide) rfl (fun ls hl => ?_)
        refine lv_goto (tgt := 15) hx hb d_RF_on_52 (by decide) ?_
        exact hk _ ⟨lv_sub hl [0, 2, 3, 4] rfl, lt_s hJ (fun ⟨w0, z, z2⟩ => by rw [hw.non hi e_6] at z; cases z)⟩
      · obtain ⟨w_8, a_9, a_10, a_11⟩ := hw.get hi e_6
        have hP_12 := rf_pl hP a_10 a_11
        refine lv_astore (lv' := [(4, .ref q_7), (3, .int (nI i)), (0, .ref x), (1, .int px), (2, .int py)]) hx hb d_RF_on_30 hl (by decide) rfl (fun ls hl => ?_)
        refine lv_aload hx hb d_RF_on_32 (lv_at hl 0 rfl) ?_
        refine lv_ifnull hx hb d_RF_on_34 ?_
        refine lv_aload hx hb d_RF_on_37 (lv_at hl 0 rfl) ?_
        refine lv_iload_n hx hb d_RF_on_39 rfl (lv_at hl 3 rfl) ?_
        refine lv_iload_n hx hb d_RF_on_40 rfl (lv_at hl 4 rfl) ?_
        refine vp_callSi (va_Run.run (rf_runV (As := [.int px, .int py]) (rest := []) S0 ml_RF_98 (c_Wall_covers l D (x_t cW cM) q_7 w_8 px py) hE (va_recv hK hP_12 (ci := 0) (q0 := 0) rfl rfl) hP_12 ⟨rfl, rfl, Nat.le_of_ble_eq_true rfl, Nat.le_of_ble_eq_true rfl⟩ rfl hl.1 rfl (Nat.le_of_ble_eq_true rfl) d_RF_on_41 ⟨Nat.zero_le _, Nat.zero_le _⟩)) (fun r_13 h_14 => ?_)
        refine lv_if_eq (tgt := 49) hx hb d_RF_on_44 (by decide) (fun c_15 => ?_) (fun c_15 => ?_)
        · refine lv_iinc (v := (nI (i + 1))) (lv' := [(3, .int (nI (i + 1))), (4, .ref q_7), (0, .ref x), (1, .int px), (2, .int py)]) hx hb d_RF_on_49 hl (k := 1) rfl (nI_1 i) (by decide) rfl (fun ls hl => ?_)
          refine lv_goto (tgt := 15) hx hb d_RF_on_52 (by decide) ?_
          exact hk _ ⟨lv_sub hl [0, 2, 3, 4] rfl, lt_s hJ (fun ⟨w0, z, z2⟩ => by rw [a_9] at z; cases z; exact (h_14.f c_15) z2)⟩
        · refine lv_iload_n hx hb d_RF_on_47 rfl (lv_at hl 1 rfl) ?_
          exact W.iret (v := nI i) hx hb hr (fun t ht hW => ⟨_, rfl, (Or.inl ⟨(h_2.t c_3), Or.inl ⟨i, hi, rfl, ⟨w_8, a_9, (h_14.t c_15)⟩, hJ⟩⟩), ht⟩) (fun _ h => absurd h List.not_mem_nil) d_RF_on_48
  · refine lv_iconst (v := -1) hx hb d_RF_on_11 (by decide) ?_
    exact W.iret (v := (-1)) hx hb hr (fun t ht hW => ⟨_, rfl, (Or.inr ⟨(h_2.f c_3), rfl⟩), ht⟩) (fun _ h => absurd h List.not_mem_nil) d_RF_on_12
set_option maxHeartbeats 4000000 in
set_option maxRecDepth 100000 in
theorem c_RF_meetingAt (l : Launch) (D : va_G) (x wa ma : Nat) (wc mc : Int32) (ry : Option Nat) (cW cM : ClassId) (wf mf : Nat → Option Nat) (L : List Nat) (f : Nat → va_E) (n : Nat) (hn : n ≤ 64) (hmc : mc = nI n) (i : Int32) : Met l y_RF_meetingAt (.code y_RF_meetingAt b_RF_meetingAt 2 (some (.object "RayField$Meeting")) :: BIG) { frames := 0, cells := 0, slots := 0, locals := 0 } (rf_Pc D (x_t cW cM) [.ref x, .int i] (fun h => va_P D vwCl (x_3 x wa ma wc mc ry cW cM wf mf ++ va_pl L f) h)) (va_Sq (fun r => (∃ k, k < n ∧ i = nI k ∧ r = mf k) ∨ ((∀ k, k < n → ¬ i = nI k) ∧ r = none))) 0 0 (fun _ => False) := by
  refine Met.ofW (cc := b_RF_meetingAt) (maxL := 2) (ret := (some (.object "RayField$Meeting"))) (by decide) rfl ?_
  intro p e s m args below meth c s₁ B hml hv
  obtain ⟨rfl, hE, hP⟩ := hv
  have hx := B.exec
  have hb := B.bytes
  have hr := B.returns
  have hts : ∀ w ∈ BIG, w.before [.ref x, .int i].toArray s = true := fun w h => atoms_spec (ws := .code y_RF_meetingAt b_RF_meetingAt 2 (some (.object "RayField$Meeting")) :: BIG) B.pre w (List.mem_cons_of_mem _ h)
  have hown : s.vm.findClass "RayField" = some m.cls := findClass_of_methodNamed B.named
  have hlocks := B.notSynchronized
  have hK := hE.2
  have S0 : CallFix p m c b_RF_meetingAt 2 s [.ref x, .int i].toArray BIG "RayField" := ⟨hx, hb, hml, hown, hts⟩
  have hl := lv_entry ([.ref x, .int i]) (n := 2) (Nat.le_of_ble_eq_true rfl)
  rw [lg_entry_eq]
  generalize (lg_sl ([.ref x, .int i]) ++ List.replicate (2 - (lg_sl ([.ref x, .int i])).length) Slot.unset).toArray = ls at hl ⊢
  have hl : lv_has ls 2 [(0, .ref x), (1, .int i)] := hl
  have hP : va_P D vwCl (x_3 x wa ma wc mc ry cW cM wf mf ++ va_pl L f) s.heap := hP
  refine lv_iload_n hx hb d_RF_meetingAt_0 rfl (lv_at hl 1 rfl) ?_
  refine lv_if_lt (tgt := 30) hx hb d_RF_meetingAt_1 (by decide) (fun c_1 => ?_) (fun c_1 => ?_)
  · refine lv_null hx hb d_RF_meetingAt_30 ?_
    exact W.aret (v := va_rf (none)) hx hb hr (Or.inl ⟨_, rfl⟩) (va_rf_or _) (fun t ht hW => ⟨none, rfl, (Or.inr ⟨rf_ix0 (n := n) (by omega) (Or.inl c_1), rfl⟩), ht⟩) (fun _ h => absurd h List.not_mem_nil) d_RF_meetingAt_31
  · refine lv_iload_n hx hb d_RF_meetingAt_4 rfl (lv_at hl 1 rfl) ?_
    refine lv_aload_n hx hb d_RF_meetingAt_5 rfl (lv_at hl 0 rfl) ?_
    refine va_get (D := D) (ci := 3) (v := .int mc) (C := "RayField") (T := F_RF) (N := 5) hx hb hts in_RF hown hK hP 0 rfl rfl 4 (by decide) (hts _ w_23) (fun _ h9 => h9) rfl d_RF_meetingAt_6 ?_
    refine lv_icmp_ge (tgt := 30) hx hb d_RF_meetingAt_9 (by decide) (fun c_2 => ?_) (fun c_2 => ?_)
    · refine lv_null hx hb d_RF_meetingAt_30 ?_
      exact W.aret (v := va_rf (none)) hx hb hr (Or.inl ⟨_, rfl⟩) (va_rf_or _) (fun t ht hW => ⟨none, rfl, (Or.inr ⟨rf_ix0 (n := n) (by omega) (Or.inr (by rw [← hmc]; exact c_2)), rfl⟩), ht⟩) (fun _ h => absurd h List.not_mem_nil) d_RF_meetingAt_31
    · refine lv_iload_n hx hb d_RF_meetingAt_12 rfl (lv_at hl 1 rfl) ?_
      refine lv_aload_n hx hb d_RF_meetingAt_13 rfl (lv_at hl 0 rfl) ?_
      refine va_get (D := D) (ci := 3) (v := .ref ma) (C := "RayField") (T := F_RF) (N := 5) hx hb hts in_RF hown hK hP 0 rfl rfl 3 (by decide) (hts _ w_22) (fun _ h9 => h9) rfl d_RF_meetingAt_14 ?_
      refine va_alen hx hb hK hP 2 1 rfl rfl (v := nI 64) rfl d_RF_meetingAt_17 ?_
      refine lv_icmp_ge (tgt := 30) hx hb d_RF_meetingAt_18 (by decide) (fun c_3 => ?_) (fun c_3 => ?_)
      · refine lv_null hx hb d_RF_meetingAt_30 ?_
        exact W.aret (v := va_rf (none)) hx hb hr (Or.inl ⟨_, rfl⟩) (va_rf_or _) (fun t ht hW => ⟨none, rfl, (Or.inr ⟨rf_ix0 (n := n) (by omega) (Or.inr (Int32.le_trans (nI_le hn (by decide)) c_3)), rfl⟩), ht⟩) (fun _ h => absurd h List.not_mem_nil) d_RF_meetingAt_31
      · obtain ⟨k, hk, ek⟩ := rf_ix (n := n) (by omega) c_1 (by rw [← hmc]; exact c_2)
        subst ek
        refine lv_aload_n hx hb d_RF_meetingAt_21 rfl (lv_at hl 0 rfl) ?_
        refine va_get (D := D) (ci := 3) (v := .ref ma) (C := "RayField") (T := F_RF) (N := 5) hx hb hts in_RF hown hK hP 0 rfl rfl 3 (by decide) (hts _ w_22) (fun _ h9 => h9) rfl d_RF_meetingAt_22 ?_
        refine lv_iload_n hx hb d_RF_meetingAt_25 rfl (lv_at hl 1 rfl) ?_
        refine rf_aldq hx hb hK hP 2 1 rfl rfl (Nat.lt_of_lt_of_le hk hn) (by decide) d_RF_meetingAt_26 ?_
        refine rf_topq (fun e_4 => ?_) (fun q_5 e_4 => ?_)
        · refine lv_goto (tgt := 31) hx hb d_RF_meetingAt_27 (by decide) ?_
          exact W.aret (v := va_rf (none)) hx hb hr (Or.inl ⟨_, rfl⟩) (va_rf_or _) (fun t ht hW => ⟨none, rfl, (Or.inl ⟨k, hk, rfl, e_4.symm⟩), ht⟩) (fun _ h => absurd h List.not_mem_nil) d_RF_meetingAt_31
        · refine lv_goto (tgt := 31) hx hb d_RF_meetingAt_27 (by decide) ?_
          exact W.aret (v := va_rf (some q_5)) hx hb hr (Or.inl ⟨_, rfl⟩) (va_rf_or _) (fun t ht hW => ⟨some q_5, rfl, (Or.inl ⟨k, hk, rfl, e_4.symm⟩), ht⟩) (fun _ h => absurd h List.not_mem_nil) d_RF_meetingAt_31
set_option maxHeartbeats 4000000 in
set_option maxRecDepth 100000 in
theorem c_RF_met (l : Launch) (D : va_G) (x wa ma : Nat) (wc mc : Int32) (ry : Option Nat) (cW cM : ClassId) (wf mf : Nat → Option Nat) (L : List Nat) (f : Nat → va_E) : Met l y_RF_met (.code y_RF_met b_RF_met 1 (some (.int)) :: BIG) { frames := 0, cells := 0, slots := 0, locals := 0 } (rf_Pc D (x_t cW cM) [.ref x] (fun h => va_P D vwCl (x_3 x wa ma wc mc ry cW cM wf mf ++ va_pl L f) h)) (vp_Si (fun r => (ry = none ∧ r = -1) ∨ (∃ q, ry = some q ∧ r = mc))) 0 0 (fun _ => False) := by
  refine Met.ofW (cc := b_RF_met) (maxL := 1) (ret := (some (.int))) (by decide) rfl ?_
  intro p e s m args below meth c s₁ B hml hv
  obtain ⟨rfl, hE, hP⟩ := hv
  have hx := B.exec
  have hb := B.bytes
  have hr := B.returns
  have hts : ∀ w ∈ BIG, w.before [.ref x].toArray s = true := fun w h => atoms_spec (ws := .code y_RF_met b_RF_met 1 (some (.int)) :: BIG) B.pre w (List.mem_cons_of_mem _ h)
  have hown : s.vm.findClass "RayField" = some m.cls := findClass_of_methodNamed B.named
  have hlocks := B.notSynchronized
  have hK := hE.2
  have S0 : CallFix p m c b_RF_met 1 s [.ref x].toArray BIG "RayField" := ⟨hx, hb, hml, hown, hts⟩
  have hl := lv_entry ([.ref x]) (n := 1) (Nat.le_of_ble_eq_true rfl)
  rw [lg_entry_eq]
  generalize (lg_sl ([.ref x]) ++ List.replicate (1 - (lg_sl ([.ref x])).length) Slot.unset).toArray = ls at hl ⊢
  have hl : lv_has ls 1 [(0, .ref x)] := hl
  have hP : va_P D vwCl (x_3 x wa ma wc mc ry cW cM wf mf ++ va_pl L f) s.heap := hP
  refine lv_aload_n hx hb d_RF_met_0 rfl (lv_at hl 0 rfl) ?_
  refine va_get (D := D) (ci := 3) (v := va_rf ry) (C := "RayField") (T := F_RF) (N := 5) hx hb hts in_RF hown hK hP 0 rfl rfl 2 (by decide) (hts _ w_21) (fun _ h9 => h9) rfl d_RF_met_1 ?_
  refine rf_topq (fun e_1 => ?_) (fun q_2 e_1 => ?_)
  · refine lv_ifnonnullN hx hb d_RF_met_4 ?_
    refine lv_iconst (v := -1) hx hb d_RF_met_7 (by decide) ?_
    refine lv_goto (tgt := 15) hx hb d_RF_met_8 (by decide) ?_
    exact W.iret (v := (-1)) hx hb hr (fun t ht hW => ⟨_, rfl, (Or.inl ⟨e_1, rfl⟩), ht⟩) (fun _ h => absurd h List.not_mem_nil) d_RF_met_15
  · refine lv_ifnonnull (tgt := 11) hx hb d_RF_met_4 (by decide) ?_
    refine lv_aload_n hx hb d_RF_met_11 rfl (lv_at hl 0 rfl) ?_
    refine va_get (D := D) (ci := 3) (v := .int mc) (C := "RayField") (T := F_RF) (N := 5) hx hb hts in_RF hown hK hP 0 rfl rfl 4 (by decide) (hts _ w_23) (fun _ h9 => h9) rfl d_RF_met_12 ?_
    exact W.iret (v := mc) hx hb hr (fun t ht hW => ⟨_, rfl, (Or.inr ⟨_, e_1, rfl⟩), ht⟩) (fun _ h => absurd h List.not_mem_nil) d_RF_met_15
