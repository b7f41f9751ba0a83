set_option maxHeartbeats 4000000 in
set_option maxRecDepth 100000 in
theorem c_RF_meetOne (l : Launch) (D : va_G) (x wa ma : Nat) (wc mc : Int32) (ry : Option Nat) (cW cM : ClassId) (wf mf : Nat → Option Nat) (L : List Nat) (f : Nat → va_E) (n : Nat) (hn : n < 64) (wl : Nat → Option Q4) (ra : Q4) (g : Nat → Nat) (hM : rf_meets L f mf wl ra n g) (hmp : rf_mpool L f mf) (k : Nat) (w : Q4) (hwk : wl k = some w) (qw qr : Nat) (hqw : qw ∈ L) (hqwf : f qw = e_W w) (hqr : qr ∈ L) (hqrf : f qr = e_R ra) (sz : Nat) : Met l y_RF_meetOne (.code y_RF_meetOne b_RF_meetOne 5 none :: BIG) { frames := 3, cells := 1, slots := 5, locals := 120 } (rf_Pc D (x_t cW cM) [.ref x, .int (nI k), .ref qw, .ref qr] (fun h => h.size = sz ∧ va_P D vwCl (x_3 x wa ma wc (nI n) ry cW cM wf mf ++ va_pl L f) h ∧ va_D (fun _ => True) (x_3 x wa ma wc (nI n) ry cW cM wf mf ++ va_pl L f))) (va_Qv (S := List Nat × (Nat → va_E) × (Nat → Option Nat) × Nat × (Nat → Nat)) (fun u => rf_keep L f u.1 u.2.1 ∧ rf_mpool u.1 u.2.1 u.2.2.1 ∧ rf_meets u.1 u.2.1 u.2.2.1 wl ra u.2.2.2.1 u.2.2.2.2 ∧ ((¬ m_met w ra ∧ u.2.2.2.1 = n ∧ u.2.2.2.2 = g) ∨ (m_met w ra ∧ u.2.2.2.1 = n + 1 ∧ ∃ p, g_pos (rf_nr wl ra) k g n p ∧ ∀ j, j < n + 1 → u.2.2.2.2 j = g_ins g p k j))) (fun u t => va_P D vwCl (x_3 x wa ma wc (nI u.2.2.2.1) ry cW cM wf u.2.2.1 ++ va_pl u.1 u.2.1) t.heap ∧ va_D (va_A (x_3 x wa ma wc (nI n) ry cW cM wf mf ++ va_pl L f) sz) (x_3 x wa ma wc (nI u.2.2.2.1) ry cW cM wf u.2.2.1 ++ va_pl u.1 u.2.1)) (va_A (x_3 x wa ma wc (nI n) ry cW cM wf mf ++ va_pl L f) sz)) 1 5 (va_A (x_3 x wa ma wc (nI n) ry cW cM wf mf ++ va_pl L f) sz) := by
  refine Met.ofW (cc := b_RF_meetOne) (maxL := 5) (ret := none) (by decide) rfl ?_
  intro p e s m args below meth c s₁ B hml hv
  obtain ⟨rfl, hE, hP⟩ := hv
  have hx := B.exec
  have hb := B.bytes
  have hr := B.returns
  have hts : ∀ w ∈ BIG, w.before [.ref x, .int (nI k), .ref qw, .ref qr].toArray s = true := fun w h => atoms_spec (ws := .code y_RF_meetOne b_RF_meetOne 5 none :: BIG) B.pre w (List.mem_cons_of_mem _ h)
  have hown : s.vm.findClass "RayField" = some m.cls := findClass_of_methodNamed B.named
  have hlocks := B.notSynchronized
  have hK := hE.2
  have S0 : CallFix p m c b_RF_meetOne 5 s [.ref x, .int (nI k), .ref qw, .ref qr].toArray BIG "RayField" := ⟨hx, hb, hml, hown, hts⟩
  have hl := lv_entry ([.ref x, .int (nI k), .ref qw, .ref qr]) (n := 5) (Nat.le_of_ble_eq_true rfl)
  rw [lg_entry_eq]
  generalize (lg_sl ([.ref x, .int (nI k), .ref qw, .ref qr]) ++ List.replicate (5 - (lg_sl ([.ref x, .int (nI k), .ref qw, .ref qr])).length) Slot.unset).toArray = ls at hl ⊢
  have hl : lv_has ls 5 [(0, .ref x), (1, .int (nI k)), (2, .ref qw), (3, .ref qr)] := hl
  obtain ⟨hsz, hP, hD0⟩ := hP
  subst hsz
  have hD := hD0.self (sz := s.heap.size)
  generalize hAe : va_A (x_3 x wa ma wc (nI n) ry cW cM wf mf ++ va_pl L f) s.heap.size = A at hD ⊢
  have hA : ∀ q : Nat, s.heap.size ≤ q → A q := fun q h => by rw [← hAe]; exact Or.inr h
  obtain ⟨H, hH⟩ : ∃ H : Heap, H = s.heap := ⟨_, rfl⟩
  refine rf_heap hH ?_
  have hS : va_S A s.heap H [] := by rw [hH]; exact va_S.rf
  have hP : va_P D vwCl (x_3 x wa ma wc (nI n) ry cW cM wf mf ++ va_pl L f) H := by rw [hH]; exact hP
  refine lv_aload_n hx hb d_RF_meetOne_0 rfl (lv_at hl 0 rfl) ?_
  refine va_get (D := D) (ci := 3) (v := .ref ma) (C := "RayField") (T := F_RF) (N := 5) hx hb hts in_RF hown hK hP 0 rfl rfl 3 (by decide) (hts _ w_22) (fun _ h9 => h9) rfl d_RF_meetOne_1 ?_
  refine lv_aload_n hx hb d_RF_meetOne_4 rfl (lv_at hl 0 rfl) ?_
  refine va_get (D := D) (ci := 3) (v := .int (nI n)) (C := "RayField") (T := F_RF) (N := 5) hx hb hts in_RF hown hK hP 0 rfl rfl 4 (by decide) (hts _ w_23) (fun _ h9 => h9) rfl d_RF_meetOne_5 ?_
  refine rf_aldq hx hb hK hP 2 1 rfl rfl hn (by decide) d_RF_meetOne_8 ?_
  refine rf_topq (fun e_1 => ?_) (fun q_2 e_1 => ?_)
  · refine lv_astoreN (lv' := [(4, .null), (0, .ref x), (1, .int (nI k)), (2, .ref qw), (3, .ref qr)]) hx hb d_RF_meetOne_9 hl (by decide) rfl (fun ls hl => ?_)
    refine lv_aloadN hx hb d_RF_meetOne_11 (lv_at hl 0 rfl) ?_
    refine lv_ifnonnullN hx hb d_RF_meetOne_13 ?_
    refine va_new (ci := 2) (fs := [.int 0, .int 0, .long 0, .long 0, .long 0]) (C := "RayField$Meeting") (T := F_Meeting) (N := 5) hx hb hts in_Meeting t_Meeting tok_Meeting hown (hts _ w_17) (hts _ w_122) (hts _ w_5) hK hP hD hS hA rfl (fun j hj => by rcases (show j = 0 ∨ j = 1 ∨ j = 2 ∨ j = 3 ∨ j = 4 by omega) with rfl | rfl | rfl | rfl | rfl <;> rfl) (Nat.le_of_ble_eq_true rfl) (Nat.le_of_ble_eq_true rfl) d_RF_meetOne_16 (fun qn H hP hD hS => ?_)
    obtain ⟨hqn, hP, hD⟩ := rf_push hP hD
    refine W.widen (k := 1) (n := 5) (by omega) (by omega) ?_
    have hP : va_P D vwCl (x_3 x wa ma wc (nI n) ry cW cM wf mf ++ va_pl (L ++ [qn]) (va_up f qn (e_M 0 0 0 0 0))) H := hP
    have hD : va_D A (x_3 x wa ma wc (nI n) ry cW cM wf mf ++ va_pl (L ++ [qn]) (va_up f qn (e_M 0 0 0 0 0))) := hD
    have hqm : qn ∈ L ++ [qn] := List.mem_append_right _ (List.mem_singleton.mpr rfl)
    have hqmf : va_up f qn (e_M 0 0 0 0 0) qn = e_M 0 0 0 0 0 := va_up_self _ _ _
    refine lv_dup hx hb d_RF_meetOne_19 rfl ?_
    have hFc := rf_poolfree (wc := [(qn, (e_M 0 0 0 0 0))]) hD hS hA (rf_mem1 hqm)
    refine va_callv (rf_runIN (As := []) (rest := [.ref qn]) S0 ml_RF_122 (c_Meeting_init l D (x_t cW cM) qn H.size) hE ⟨rfl, rf_pl hP hqm hqmf, rf_D1⟩ ⟨rfl, rfl, Nat.le_of_ble_eq_true rfl, Nat.le_of_ble_eq_true rfl⟩ rfl hl.1 rfl (Nat.le_of_ble_eq_true rfl) d_RF_meetOne_20 ⟨Nat.le_of_ble_eq_true rfl, Nat.le_of_ble_eq_true rfl⟩) hS (fun q _ h => hFc q h) hFc (fun u0 t H1 locs ht hvm hw0 hB hz1 hk1 hS => ?_)
    obtain ⟨hP1, hD1⟩ := hB
    rw [ht] at hP1
    obtain ⟨hP, hD⟩ := rf_pool1 (u := (e_M 0 0 0 0 0)) hP hD hqm hk1 hP1
    generalize H1 = H at hP hS ⊢
    rw [bx_uu] at hP hD
    refine W.widen (k := 1) (n := 5) (by omega) (by omega) ?_
    have hP : va_P D vwCl (x_3 x wa ma wc (nI n) ry cW cM wf mf ++ va_pl (L ++ [qn]) (va_up f qn (e_M 0 0 0 0 0))) H := hP
    have hD : va_D A (x_3 x wa ma wc (nI n) ry cW cM wf mf ++ va_pl (L ++ [qn]) (va_up f qn (e_M 0 0 0 0 0))) := hD
    refine lv_astore (lv' := [(4, .ref qn), (0, .ref x), (1, .int (nI k)), (2, .ref qw), (3, .ref qr)]) hx hb d_RF_meetOne_23 hl (by decide) rfl (fun ls hl => ?_)
    refine lv_aload_n hx hb d_RF_meetOne_25 rfl (lv_at hl 1 rfl) ?_
    refine va_get (D := D) (ci := 3) (v := .ref ma) (C := "RayField") (T := F_RF) (N := 5) hx hb hts in_RF hown hK hP 0 rfl rfl 3 (by decide) (hts _ w_22) (fun _ h9 => h9) rfl d_RF_meetOne_26 ?_
    refine lv_aload_n hx hb d_RF_meetOne_29 rfl (lv_at hl 1 rfl) ?_
    refine va_get (D := D) (ci := 3) (v := .int (nI n)) (C := "RayField") (T := F_RF) (N := 5) hx hb hts in_RF hown hK hP 0 rfl rfl 4 (by decide) (hts _ w_23) (fun _ h9 => h9) rfl d_RF_meetOne_30 ?_
    refine lv_aload hx hb d_RF_meetOne_33 (lv_at hl 0 rfl) ?_
    obtain ⟨kq, hkq⟩ := va_pl_get (X := x_3 x wa ma wc (nI n) ry cW cM wf mf) (f := va_up f qn (e_M 0 0 0 0 0)) hqm
    rw [hqmf] at hkq
    refine rf_astq (r := ("RayField$Meeting", F_Meeting, 5)) hx hb hK hP hD hS 2 1 kq 2 rfl rfl hkq rfl hn (by decide) d_RF_meetOne_35 (fun H locs hP hD hS => ?_)
    have hP : va_P D vwCl (x_3 x wa ma wc (nI n) ry cW cM wf (va_up mf n (some qn)) ++ va_pl (L ++ [qn]) (va_up f qn (e_M 0 0 0 0 0))) H := hP
    have hD : va_D A (x_3 x wa ma wc (nI n) ry cW cM wf (va_up mf n (some qn)) ++ va_pl (L ++ [qn]) (va_up f qn (e_M 0 0 0 0 0))) := hD
    have hkp : rf_keep L f (L ++ [qn]) (va_up f qn (e_M 0 0 0 0 0)) := rf_keep.new hqn
    have hqw1 := hkp.1 _ hqw
    have hqwf1 := hkp.2.1 _ _ hqw hqwf
    have hqr1 := hkp.1 _ hqr
    have hqrf1 := hkp.2.2 _ _ hqr hqrf
    have hmp1 : rf_mpool (L ++ [qn]) (va_up f qn (e_M 0 0 0 0 0)) (va_up mf n (some qn)) := hmp.new hqn e_1
    have hM1 : rf_meets (L ++ [qn]) (va_up f qn (e_M 0 0 0 0 0)) (va_up mf n (some qn)) wl ra n g := hM.new hqn
    have hmn : va_up mf n (some qn) n = some qn := va_up_self _ _ _
    refine lv_aload hx hb d_RF_meetOne_36 (lv_at hl 0 rfl) ?_
    refine lv_iload_n hx hb d_RF_meetOne_38 rfl (lv_at hl 2 rfl) ?_
    refine lv_aload_n hx hb d_RF_meetOne_39 rfl (lv_at hl 3 rfl) ?_
    refine lv_aload_n hx hb d_RF_meetOne_40 rfl (lv_at hl 4 rfl) ?_
    have hFc := rf_poolfree (wc := [(qn, e_M 0 0 0 0 0), (qw, e_W w), (qr, e_R ra)]) hD hS hA (rf_mem3 hqm hqw1 hqr1)
    refine va_calli (rf_runV (As := [.int (nI k), .ref qw, .ref qr]) (rest := []) S0 ml_RF_123 (c_Meeting_fill l D (x_t cW cM) qn qw qr 0 0 0 0 0 w ra (nI k) H.size) hE (va_recv hK (rf_pl hP hqm hqmf) (ci := 2) (q0 := 0) rfl rfl) ⟨rfl, rf_P3 (rf_pl hP hqm hqmf) (rf_pl hP hqw1 hqwf1) (rf_pl hP hqr1 hqrf1), rf_D3 (rf_neMW hqmf hqwf1) (rf_neMR hqmf hqrf1) (rf_neWR hqwf1 hqrf1)⟩ ⟨rfl, rfl, Nat.le_of_ble_eq_true rfl, Nat.le_of_ble_eq_true rfl⟩ rfl hl.1 rfl (Nat.le_of_ble_eq_true rfl) d_RF_meetOne_41 ⟨Nat.le_of_ble_eq_true rfl, Nat.le_of_ble_eq_true rfl⟩) hS (fun q _ h => hFc q h) hFc (fun r u t H1 locs ht hvm hw hB hz1 hk1 hS => ?_)
    obtain ⟨hP1, hD1⟩ := hB
    rw [ht] at hP1
    obtain ⟨hP, hD⟩ := rf_pool3 (u := u) hP hD hqm hqw1 hqr1 (rf_neMW hqmf hqwf1) (rf_neMR hqmf hqrf1) hqwf1 hqrf1 hk1 hP1
    generalize H1 = H at hP hS ⊢
    refine W.widen (k := 1) (n := 5) (by omega) (by omega) ?_
    have hP : va_P D vwCl (x_3 x wa ma wc (nI n) ry cW cM wf (va_up mf n (some qn)) ++ va_pl (L ++ [qn]) (va_up (va_up f qn (e_M 0 0 0 0 0)) qn u)) H := hP
    have hD : va_D A (x_3 x wa ma wc (nI n) ry cW cM wf (va_up mf n (some qn)) ++ va_pl (L ++ [qn]) (va_up (va_up f qn (e_M 0 0 0 0 0)) qn u)) := hD
    have hu := rf_isM hw.2.1 hw.2.2
    have hmp2 := hmp1.fill (q := qn) hu
    have hM2 := hM1.fill (u := u) hmp1 hn hmn
    have hkp2 := hkp.trans (rf_keep.fill (u := u) hqmf)
    refine lv_if_eq (tgt := 53) hx hb d_RF_meetOne_44 (by decide) (fun c_3 => ?_) (fun c_3 => ?_)
    · refine W.widen (k := 1) (n := 5) (by omega) (by omega) ?_
      exact W.vret hx hb hr (fun t ht hW => ⟨⟨((L ++ [qn]), (va_up (va_up f qn (e_M 0 0 0 0 0)) qn u), (va_up mf n (some qn)), n, g), rfl, ⟨hkp2, hmp2, hM2, Or.inl ⟨(hw.1.f c_3), rfl, rfl⟩⟩, by rw [ht]; exact hP, hD⟩, hS.F ht⟩) hS.2.2 d_RF_meetOne_53
    · refine lv_aload_n hx hb d_RF_meetOne_47 rfl (lv_at hl 1 rfl) ?_
      refine lv_aload hx hb d_RF_meetOne_48 (lv_at hl 0 rfl) ?_
      have hqf2 : (va_up (va_up f qn (e_M 0 0 0 0 0)) qn u) qn = e_Mw k w ra := by rw [va_up_self]; exact hw.2.1 (hw.1.t c_3)
      have hFc := rf_freeW hD hS hA
      refine va_callv (rf_runV (As := [.ref qn]) (rest := []) S0 ml_RF_127 (c_RF_sortIn l D x wa ma wc mc ry cW cM wf (va_up mf n (some qn)) (L ++ [qn]) (va_up (va_up f qn (e_M 0 0 0 0 0)) qn u) n hn wl ra g hM2 k w hwk qn hqm hqf2 H.size) hE (va_recv hK hP (ci := 3) (q0 := 0) rfl rfl) ⟨rfl, hP, hD.weaken (fun _ _ _ _ => trivial)⟩ ⟨rfl, rfl, Nat.le_of_ble_eq_true rfl, Nat.le_of_ble_eq_true rfl⟩ rfl hl.1 rfl (Nat.le_of_ble_eq_true rfl) d_RF_meetOne_50 ⟨Nat.le_of_ble_eq_true rfl, Nat.le_of_ble_eq_true rfl⟩) hS (fun q _ h => hFc q h) hFc (fun u2 t H1 locs ht hvm hw2 hB hz1 hk1 hS => ?_)
      obtain ⟨hP, hD1⟩ := hB
      rw [ht] at hP
      have hD := hD1.weaken (fun k q _ h => hFc q.1 h)
      generalize H1 = H at hP hS ⊢
      obtain ⟨pz, mf2⟩ := u2
      obtain ⟨hpos, hmf2⟩ := hw2
      dsimp only at hpos hmf2
      subst hmf2
      refine W.widen (k := 1) (n := 5) (by omega) (by omega) ?_
      have hP : va_P D vwCl (x_3 x wa ma wc (nI (n + 1)) ry cW cM wf (rf_mins (va_up mf n (some qn)) (some qn) n pz) ++ va_pl (L ++ [qn]) (va_up (va_up f qn (e_M 0 0 0 0 0)) qn u)) H := hP
      have hD : va_D A (x_3 x wa ma wc (nI (n + 1)) ry cW cM wf (rf_mins (va_up mf n (some qn)) (some qn) n pz) ++ va_pl (L ++ [qn]) (va_up (va_up f qn (e_M 0 0 0 0 0)) qn u)) := hD
      refine W.widen (k := 1) (n := 5) (by omega) (by omega) ?_
      exact W.vret hx hb hr (fun t ht hW => ⟨⟨((L ++ [qn]), (va_up (va_up f qn (e_M 0 0 0 0 0)) qn u), (rf_mins (va_up mf n (some qn)) (some qn) n pz), n + 1, g_ins g pz k), rfl, ⟨hkp2, hmp2.sort hn hpos.1 hmn, hM2.sort hqm hpos.1 hwk hqf2, Or.inr ⟨(hw.1.t c_3), rfl, pz, hpos, fun j _ => rfl⟩⟩, by rw [ht]; exact hP, hD⟩, hS.F ht⟩) hS.2.2 d_RF_meetOne_53
  · obtain ⟨hqm, n1, f1, d1, a1, v1, hqmf⟩ := hmp.1 n q_2 hn e_1
    refine W.widen (k := 1) (n := 5) (by omega) (by omega) ?_
    have hqw1 := hqw
    have hqwf1 := hqwf
    have hqr1 := hqr
    have hqrf1 := hqrf
    have hmp1 := hmp
    have hM1 := hM
    have hkp : rf_keep L f L f := rf_keep.rfl'
    have hmn := e_1
    refine lv_astore (lv' := [(4, .ref q_2), (0, .ref x), (1, .int (nI k)), (2, .ref qw), (3, .ref qr)]) hx hb d_RF_meetOne_9 hl (by decide) rfl (fun ls hl => ?_)
    refine lv_aload hx hb d_RF_meetOne_11 (lv_at hl 0 rfl) ?_
    refine lv_ifnonnull (tgt := 36) hx hb d_RF_meetOne_13 (by decide) ?_
    refine lv_aload hx hb d_RF_meetOne_36 (lv_at hl 0 rfl) ?_
    refine lv_iload_n hx hb d_RF_meetOne_38 rfl (lv_at hl 2 rfl) ?_
    refine lv_aload_n hx hb d_RF_meetOne_39 rfl (lv_at hl 3 rfl) ?_
    refine lv_aload_n hx hb d_RF_meetOne_40 rfl (lv_at hl 4 rfl) ?_
    have hFc := rf_poolfree (wc := [(q_2, e_M n1 f1 d1 a1 v1), (qw, e_W w), (qr, e_R ra)]) hD hS hA (rf_mem3 hqm hqw1 hqr1)
    refine va_calli (rf_runV (As := [.int (nI k), .ref qw, .ref qr]) (rest := []) S0 ml_RF_123 (c_Meeting_fill l D (x_t cW cM) q_2 qw qr n1 f1 d1 a1 v1 w ra (nI k) H.size) hE (va_recv hK (rf_pl hP hqm hqmf) (ci := 2) (q0 := 0) rfl rfl) ⟨rfl, rf_P3 (rf_pl hP hqm hqmf) (rf_pl hP hqw1 hqwf1) (rf_pl hP hqr1 hqrf1), rf_D3 (rf_neMW hqmf hqwf1) (rf_neMR hqmf hqrf1) (rf_neWR hqwf1 hqrf1)⟩ ⟨rfl, rfl, Nat.le_of_ble_eq_true rfl, Nat.le_of_ble_eq_true rfl⟩ rfl hl.1 rfl (Nat.le_of_ble_eq_true rfl) d_RF_meetOne_41 ⟨Nat.le_of_ble_eq_true rfl, Nat.le_of_ble_eq_true rfl⟩) hS (fun q _ h => hFc q h) hFc (fun r u t H1 locs ht hvm hw hB hz1 hk1 hS => ?_)
    obtain ⟨hP1, hD1⟩ := hB
    rw [ht] at hP1
    obtain ⟨hP, hD⟩ := rf_pool3 (u := u) hP hD hqm hqw1 hqr1 (rf_neMW hqmf hqwf1) (rf_neMR hqmf hqrf1) hqwf1 hqrf1 hk1 hP1
    generalize H1 = H at hP hS ⊢
    refine W.widen (k := 1) (n := 5) (by omega) (by omega) ?_
    have hP : va_P D vwCl (x_3 x wa ma wc (nI n) ry cW cM wf mf ++ va_pl L (va_up f q_2 u)) H := hP
    have hD : va_D A (x_3 x wa ma wc (nI n) ry cW cM wf mf ++ va_pl L (va_up f q_2 u)) := hD
    have hu := rf_isM hw.2.1 hw.2.2
    have hmp2 := hmp1.fill (q := q_2) hu
    have hM2 := hM1.fill (u := u) hmp1 hn hmn
    have hkp2 := hkp.trans (rf_keep.fill (u := u) hqmf)
    refine lv_if_eq (tgt := 53) hx hb d_RF_meetOne_44 (by decide) (fun c_4 => ?_) (fun c_4 => ?_)
    · refine W.widen (k := 1) (n := 5) (by omega) (by omega) ?_
      exact W.vret hx hb hr (fun t ht hW => ⟨⟨(L, (va_up f q_2 u), mf, n, g), rfl, ⟨hkp2, hmp2, hM2, Or.inl ⟨(hw.1.f c_4), rfl, rfl⟩⟩, by rw [ht]; exact hP, hD⟩, hS.F ht⟩) hS.2.2 d_RF_meetOne_53
    · refine lv_aload_n hx hb d_RF_meetOne_47 rfl (lv_at hl 1 rfl) ?_
      refine lv_aload hx hb d_RF_meetOne_48 (lv_at hl 0 rfl) ?_
      have hqf2 : (va_up f q_2 u) q_2 = e_Mw k w ra := by rw [va_up_self]; exact hw.2.1 (hw.1.t c_4)
      have hFc := rf_freeW hD hS hA
      refine va_callv (rf_runV (As := [.ref q_2]) (rest := []) S0 ml_RF_127 (c_RF_sortIn l D x wa ma wc mc ry cW cM wf mf L (va_up f q_2 u) n hn wl ra g hM2 k w hwk q_2 hqm hqf2 H.size) hE (va_recv hK hP (ci := 3) (q0 := 0) rfl rfl) ⟨rfl, hP, hD.weaken (fun _ _ _ _ => trivial)⟩ ⟨rfl, rfl, Nat.le_of_ble_eq_true rfl, Nat.le_of_ble_eq_true rfl⟩ rfl hl.1 rfl (Nat.le_of_ble_eq_true rfl) d_RF_meetOne_50 ⟨Nat.le_of_ble_eq_true rfl, Nat.le_of_ble_eq_true rfl⟩) hS (fun q _ h => hFc q h) hFc (fun u2 t H1 locs ht hvm hw2 hB hz1 hk1 hS => ?_)
      obtain ⟨hP, hD1⟩ := hB
      rw [ht] at hP
      have hD := hD1.weaken (fun k q _ h => hFc q.1 h)
      generalize H1 = H at hP hS ⊢
      obtain ⟨pz, mf2⟩ := u2
      obtain ⟨hpos, hmf2⟩ := hw2
      dsimp only at hpos hmf2
      subst hmf2
      refine W.widen (k := 1) (n := 5) (by omega) (by omega) ?_
      have hP : va_P D vwCl (x_3 x wa ma wc (nI (n + 1)) ry cW cM wf (rf_mins mf (some q_2) n pz) ++ va_pl L (va_up f q_2 u)) H := hP
      have hD : va_D A (x_3 x wa ma wc (nI (n + 1)) ry cW cM wf (rf_mins mf (some q_2) n pz) ++ va_pl L (va_up f q_2 u)) := hD
      refine W.widen (k := 1) (n := 5) (by omega) (by omega) ?_
      exact W.vret hx hb hr (fun t ht hW => ⟨⟨(L, (va_up f q_2 u), (rf_mins mf (some q_2) n pz), n + 1, g_ins g pz k), rfl, ⟨hkp2, hmp2.sort hn hpos.1 hmn, hM2.sort hqm hpos.1 hwk hqf2, Or.inr ⟨(hw.1.t c_4), rfl, pz, hpos, fun j _ => rfl⟩⟩, by rw [ht]; exact hP, hD⟩, hS.F ht⟩) hS.2.2 d_RF_meetOne_53
