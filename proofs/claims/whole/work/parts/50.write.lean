set_option maxHeartbeats 4000000 in
set_option maxRecDepth 100000 in
theorem c_RF_put (l : Launch) (D : va_G) (x wa ma : Nat) (wc mc : Int32) (ry : Option Nat) (cW cM : ClassId) (wf mf : Nat → Option Nat) (L : List Nat) (f : Nat → va_E) (wl : Nat → Option Q4) (ra : Q4) (n : Nat) (g : Nat → Nat) (hc : rf_CF wl ra ry wf mf L f n g) (a1 a2 b1 b2 : Int32) (sz : Nat) : Met l y_RF_put (.code y_RF_put b_RF_put 7 (some (.int)) :: BIG) { frames := 5, cells := 65, slots := 324, locals := 200 } (rf_Pc D (x_t cW cM) [.ref x, .int a1, .int a2, .int b1, .int b2] (fun h => h.size = sz ∧ va_P D vwCl (x_3 x wa ma wc (nI n) ry cW cM wf mf ++ va_pl L f) h ∧ va_D (fun _ => True) (x_3 x wa ma wc (nI n) ry cW cM wf mf ++ va_pl L f))) (va_Qi (S := Int32 × Option Nat × Q4 × (Nat → Option Nat) × (Nat → Option Q4) × List Nat × (Nat → va_E) × (Nat → Option Nat) × Nat × (Nat → Nat)) (fun r u => ((∃ k, rf_putok m_clash wl (a1, a2, b1, b2) k ∧ r = nI k ∧ u.2.2.2.2.1 = va_up wl k (some (a1, a2, b1, b2)) ∧ u.1 = wc + 1 ∧ u.2.1 = ry ∧ u.2.2.1 = ra) ∨ ((∀ k, ¬ rf_putok m_clash wl (a1, a2, b1, b2) k) ∧ r = -1 ∧ u.2.2.2.2.1 = wl ∧ u.1 = wc ∧ u.2.1 = ry ∧ u.2.2.1 = ra)) ∧ rf_CF u.2.2.2.2.1 u.2.2.1 u.2.1 u.2.2.2.1 u.2.2.2.2.2.2.2.1 u.2.2.2.2.2.1 u.2.2.2.2.2.2.1 u.2.2.2.2.2.2.2.2.1 u.2.2.2.2.2.2.2.2.2) (fun u t => va_P D vwCl (x_3 x wa ma u.1 (nI u.2.2.2.2.2.2.2.2.1) u.2.1 cW cM u.2.2.2.1 u.2.2.2.2.2.2.2.1 ++ va_pl u.2.2.2.2.2.1 u.2.2.2.2.2.2.1) t.heap ∧ va_D (va_A (x_3 x wa ma wc (nI n) ry cW cM wf mf ++ va_pl L f) sz) (x_3 x wa ma u.1 (nI u.2.2.2.2.2.2.2.2.1) u.2.1 cW cM u.2.2.2.1 u.2.2.2.2.2.2.2.1 ++ va_pl u.2.2.2.2.2.1 u.2.2.2.2.2.2.1)) (va_A (x_3 x wa ma wc (nI n) ry cW cM wf mf ++ va_pl L f) sz)) 65 324 (va_A (x_3 x wa ma wc (nI n) ry cW cM wf mf ++ va_pl L f) sz) := by
  refine Met.ofW (cc := b_RF_put) (maxL := 7) (ret := (some (.int))) (by decide) rfl ?_
  intro p e s m args below meth c s₁ B hml hv
  obtain ⟨rfl, hE, hP⟩ := hv
  have hx := B.exec
  have hb := B.bytes
  have hr := B.returns
  have hts : ∀ w ∈ BIG, w.before [.ref x, .int a1, .int a2, .int b1, .int b2].toArray s = true := fun w h => atoms_spec (ws := .code y_RF_put b_RF_put 7 (some (.int)) :: BIG) B.pre w (List.mem_cons_of_mem _ h)
  have hown : s.vm.findClass "RayField" = some m.cls := findClass_of_methodNamed B.named
  have hlocks := B.notSynchronized
  have hK := hE.2
  have S0 : CallFix p m c b_RF_put 7 s [.ref x, .int a1, .int a2, .int b1, .int b2].toArray BIG "RayField" := ⟨hx, hb, hml, hown, hts⟩
  have hl := lv_entry ([.ref x, .int a1, .int a2, .int b1, .int b2]) (n := 7) (Nat.le_of_ble_eq_true rfl)
  rw [lg_entry_eq]
  generalize (lg_sl ([.ref x, .int a1, .int a2, .int b1, .int b2]) ++ List.replicate (7 - (lg_sl ([.ref x, .int a1, .int a2, .int b1, .int b2])).length) Slot.unset).toArray = ls at hl ⊢
  have hl : lv_has ls 7 [(0, .ref x), (1, .int a1), (2, .int a2), (3, .int b1), (4, .int b2)] := hl
  obtain ⟨hsz, hP, hD0⟩ := hP
  subst hsz
  have hD := hD0.self (sz := s.heap.size)
  generalize hAe : va_A (x_3 x wa ma wc (nI n) ry cW cM wf mf ++ va_pl L f) s.heap.size = A at hD ⊢
  have hA : ∀ q : Nat, s.heap.size ≤ q → A q := fun q h => by rw [← hAe]; exact Or.inr h
  obtain ⟨H, hH⟩ : ∃ H : Heap, H = s.heap := ⟨_, rfl⟩
  refine rf_heap hH ?_
  have hS : va_S A s.heap H [] := by rw [hH]; exact va_S.rf
  have hP : va_P D vwCl (x_3 x wa ma wc (nI n) ry cW cM wf mf ++ va_pl L f) H := by rw [hH]; exact hP
  have hc0 := hc
  obtain ⟨hw, hmp, hry, hn64, hn0, hM, hgo⟩ := hc
  refine lv_iload_n hx hb d_RF_put_0 rfl (lv_at hl 1 rfl) ?_
  refine lv_iload_n hx hb d_RF_put_1 rfl (lv_at hl 2 rfl) ?_
  refine lv_sipush (v := 2000) hx hb d_RF_put_2 (by decide) ?_
  refine vp_callSi (va_Run.run (rf_runS (As := [.int a1, .int a2, .int 2000]) (rest := []) S0 ml_RF_21 (c_RF_isPlace l D (x_t cW cM) a1 a2 2000) hE trivial ⟨rfl, rfl, Nat.le_of_ble_eq_true rfl, Nat.le_of_ble_eq_true rfl⟩ rfl hl.1 rfl (Nat.le_of_ble_eq_true rfl) d_RF_put_5 ⟨Nat.zero_le _, Nat.zero_le _⟩)) (fun r_1 h_2 => ?_)
  refine lv_if_eq (tgt := 23) hx hb d_RF_put_8 (by decide) (fun c_3 => ?_) (fun c_3 => ?_)
  · refine lv_iconst (v := -1) hx hb d_RF_put_23 (by decide) ?_
    refine W.widen (k := 65) (n := 324) (by omega) (by omega) ?_
    exact W.iret (v := (-1)) hx hb hr (fun t ht hW => ⟨⟨_, (wc, ry, ra, wf, wl, L, f, mf, n, g), rfl, ⟨Or.inr ⟨(fun k h => (h_2.f c_3) h.1), rfl, rfl, rfl, rfl, rfl⟩, ⟨hw, hmp, hry, hn64, hn0, hM, hgo⟩⟩, by rw [ht]; exact hP, hD⟩, hS.F ht⟩) hS.2.2 d_RF_put_24
  · refine lv_iload_n hx hb d_RF_put_11 rfl (lv_at hl 3 rfl) ?_
    refine lv_iload hx hb d_RF_put_12 (lv_at hl 4 rfl) ?_
    refine lv_sipush (v := 2000) hx hb d_RF_put_14 (by decide) ?_
    refine vp_callSi (va_Run.run (rf_runS (As := [.int b1, .int b2, .int 2000]) (rest := []) S0 ml_RF_21 (c_RF_isPlace l D (x_t cW cM) b1 b2 2000) hE trivial ⟨rfl, rfl, Nat.le_of_ble_eq_true rfl, Nat.le_of_ble_eq_true rfl⟩ rfl hl.1 rfl (Nat.le_of_ble_eq_true rfl) d_RF_put_17 ⟨Nat.zero_le _, Nat.zero_le _⟩)) (fun r_4 h_5 => ?_)
    refine lv_if_ne (tgt := 25) hx hb d_RF_put_20 (by decide) (fun c_6 => ?_) (fun c_6 => ?_)
    · refine lv_iload_n hx hb d_RF_put_25 rfl (lv_at hl 1 rfl) ?_
      refine lv_iload_n hx hb d_RF_put_26 rfl (lv_at hl 3 rfl) ?_
      refine lv_icmp_ne (tgt := 38) hx hb d_RF_put_27 (by decide) (fun c_7 => ?_) (fun c_7 => ?_)
      · refine lv_aload_n hx hb d_RF_put_38 rfl (lv_at hl 0 rfl) ?_
        refine vp_callSi (va_Run.run (rf_runV (As := []) (rest := []) S0 ml_RF_25 (c_RF_least l D x wa ma wc (nI n) ry cW cM wf mf L f) hE (va_recv hK hP (ci := 3) (q0 := 0) rfl rfl) hP ⟨rfl, rfl, Nat.le_of_ble_eq_true rfl, Nat.le_of_ble_eq_true rfl⟩ rfl hl.1 rfl (Nat.le_of_ble_eq_true rfl) d_RF_put_39 ⟨Nat.zero_le _, Nat.zero_le _⟩)) (fun r_8 h_9 => ?_)
        rcases h_9 with ⟨k, hk, ek, hf1, hf2⟩ | ⟨ek, hf1⟩
        · subst ek
          refine lv_istore (lv' := [(5, .int (nI k)), (0, .ref x), (1, .int a1), (2, .int a2), (3, .int b1), (4, .int b2)]) hx hb d_RF_put_42 hl (by decide) rfl (fun ls hl => ?_)
          refine lv_iload hx hb d_RF_put_44 (lv_at hl 0 rfl) ?_
          refine vp_callSi (va_Run.run (rf_runS (As := [.int (nI k)]) (rest := []) S0 ml_RF_29 (c_RF_isNumber l D (x_t cW cM) (nI k)) hE trivial ⟨rfl, rfl, Nat.le_of_ble_eq_true rfl, Nat.le_of_ble_eq_true rfl⟩ rfl hl.1 rfl (Nat.le_of_ble_eq_true rfl) d_RF_put_46 ⟨Nat.zero_le _, Nat.zero_le _⟩)) (fun r_10 h_11 => ?_)
          refine lv_if_ne (tgt := 54) hx hb d_RF_put_49 (by decide) (fun c_12 => ?_) (fun c_12 => absurd ⟨nI_pos' (show k < 2 ^ 31 by omega), nI_le (show k ≤ 63 by omega) (by decide)⟩ (h_11.f c_12))
          refine va_new (ci := 0) (fs := [.int 0, .int 0, .int 0, .int 0]) (C := "RayField$Wall") (T := F_Wall) (N := 4) hx hb hts in_Wall t_Wall tok_Wall hown (hts _ w_15) (hts _ w_52) (hts _ w_3) hK hP hD hS hA rfl (fun j hj => by rcases (show j = 0 ∨ j = 1 ∨ j = 2 ∨ j = 3 by omega) with rfl | rfl | rfl | rfl <;> rfl) (Nat.le_of_ble_eq_true rfl) (Nat.le_of_ble_eq_true rfl) d_RF_put_54 (fun qn H hP hD hS => ?_)
          obtain ⟨hqn, hP, hD⟩ := rf_push hP hD
          refine W.widen (k := 1) (n := 4) (by omega) (by omega) ?_
          have hqL : qn ∈ L ++ [qn] := List.mem_append_right _ (List.mem_singleton.mpr rfl)
          have hqf0 : va_up f qn (e_W (0, 0, 0, 0)) qn = e_W (0, 0, 0, 0) := va_up_self _ _ _
          have hP : va_P D vwCl (x_3 x wa ma wc (nI n) ry cW cM wf mf ++ va_pl (L ++ [qn]) (va_up f qn (e_W (0, 0, 0, 0)))) H := hP
          have hD : va_D A (x_3 x wa ma wc (nI n) ry cW cM wf mf ++ va_pl (L ++ [qn]) (va_up f qn (e_W (0, 0, 0, 0)))) := hD
          refine lv_dup hx hb d_RF_put_57 rfl ?_
          refine lv_iload_n hx hb d_RF_put_58 rfl (lv_at hl 2 rfl) ?_
          refine lv_iload_n hx hb d_RF_put_59 rfl (lv_at hl 3 rfl) ?_
          refine lv_iload_n hx hb d_RF_put_60 rfl (lv_at hl 4 rfl) ?_
          refine lv_iload hx hb d_RF_put_61 (lv_at hl 5 rfl) ?_
          have hFc := rf_poolfree (wc := [(qn, (e_W (0, 0, 0, 0)))]) hD hS hA (rf_mem1 hqL)
          refine va_callv (rf_runI (As := [.int a1, .int a2, .int b1, .int b2]) (rest := [.ref qn]) S0 ml_RF_33 (c_Wall_init l D (x_t cW cM) qn a1 a2 b1 b2 H.size) hE ⟨rfl, rf_pl hP hqL hqf0, rf_D1⟩ ⟨rfl, rfl, Nat.le_of_ble_eq_true rfl, Nat.le_of_ble_eq_true rfl⟩ rfl hl.1 rfl (Nat.le_of_ble_eq_true rfl) d_RF_put_63 ⟨Nat.le_of_ble_eq_true rfl, Nat.le_of_ble_eq_true rfl⟩) hS (fun q _ h => hFc q h) hFc (fun u0 t H1 locs ht hvm hw0 hB hz1 hk1 hS => ?_)
          obtain ⟨hP1, hD1⟩ := hB
          rw [ht] at hP1
          obtain ⟨hP, hD⟩ := rf_pool1 (u := (e_W (a1, a2, b1, b2))) hP hD hqL hk1 hP1
          generalize H1 = H at hP hS ⊢
          rw [bx_uu] at hP hD
          refine W.widen (k := 1) (n := 4) (by omega) (by omega) ?_
          have hP : va_P D vwCl (x_3 x wa ma wc (nI n) ry cW cM wf mf ++ va_pl (L ++ [qn]) (va_up f qn (e_W (a1, a2, b1, b2)))) H := hP
          have hD : va_D A (x_3 x wa ma wc (nI n) ry cW cM wf mf ++ va_pl (L ++ [qn]) (va_up f qn (e_W (a1, a2, b1, b2)))) := hD
          have hqf : va_up f qn (e_W (a1, a2, b1, b2)) qn = e_W (a1, a2, b1, b2) := va_up_self _ _ _
          have hcn := rf_CF.new (e := e_W (a1, a2, b1, b2)) hc0 hqn
          obtain ⟨hw1, hmp1, hry1, _, _, hM1, _⟩ := id hcn
          refine lv_astore (lv' := [(6, .ref qn), (5, .int (nI k)), (0, .ref x), (1, .int a1), (2, .int a2), (3, .int b1), (4, .int b2)]) hx hb d_RF_put_66 hl (by decide) rfl (fun ls hl => ?_)
          refine lv_aload_n hx hb d_RF_put_68 rfl (lv_at hl 2 rfl) ?_
          refine lv_aload hx hb d_RF_put_69 (lv_at hl 0 rfl) ?_
          refine vp_callSi (va_Run.run (rf_runV (As := [.ref qn]) (rest := []) S0 ml_RF_36 (c_RF_clashes l D x wa ma wc (nI n) ry cW cM wf mf (L ++ [qn]) (va_up f qn (e_W (a1, a2, b1, b2))) wl hw1 qn (a1, a2, b1, b2) hqL hqf) hE (va_recv hK hP (ci := 3) (q0 := 0) rfl rfl) hP ⟨rfl, rfl, Nat.le_of_ble_eq_true rfl, Nat.le_of_ble_eq_true rfl⟩ rfl hl.1 rfl (Nat.le_of_ble_eq_true rfl) d_RF_put_71 ⟨Nat.le_of_ble_eq_true rfl, Nat.le_of_ble_eq_true rfl⟩)) (fun r_13 h_14 => ?_)
          refine lv_if_eq (tgt := 79) hx hb d_RF_put_74 (by decide) (fun c_15 => ?_) (fun c_15 => ?_)
          · refine lv_aload_n hx hb d_RF_put_79 rfl (lv_at hl 2 rfl) ?_
            refine va_get (D := D) (ci := 3) (v := .ref wa) (C := "RayField") (T := F_RF) (N := 5) hx hb hts in_RF hown hK hP 0 rfl rfl 0 (by decide) (hts _ w_19) (fun _ h9 => h9) rfl d_RF_put_80 ?_
            refine lv_iload hx hb d_RF_put_83 (lv_at hl 1 rfl) ?_
            refine lv_aload hx hb d_RF_put_85 (lv_at hl 0 rfl) ?_
            obtain ⟨kq, hkq⟩ := va_pl_get (X := x_3 x wa ma wc (nI n) ry cW cM wf mf) (f := (va_up f qn (e_W (a1, a2, b1, b2)))) hqL
            rw [hqf] at hkq
            refine rf_astq (r := ("RayField$Wall", F_Wall, 4)) hx hb hK hP hD hS 1 0 kq 0 rfl rfl hkq rfl hk (by decide) d_RF_put_87 (fun H locs hP hD hS => ?_)
            have hP : va_P D vwCl (x_3 x wa ma wc (nI n) ry cW cM (va_up wf k (some qn)) mf ++ va_pl (L ++ [qn]) (va_up f qn (e_W (a1, a2, b1, b2)))) H := hP
            have hD : va_D A (x_3 x wa ma wc (nI n) ry cW cM (va_up wf k (some qn)) mf ++ va_pl (L ++ [qn]) (va_up f qn (e_W (a1, a2, b1, b2)))) := hD
            have hw2 := hw1.put (k := k) hqL hqf (hw.fresh hqn)
            refine lv_aload_n hx hb d_RF_put_88 rfl (lv_at hl 2 rfl) ?_
            refine lv_dup hx hb d_RF_put_89 rfl ?_
            refine va_get (D := D) (ci := 3) (v := .int wc) (C := "RayField") (T := F_RF) (N := 5) hx hb hts in_RF hown hK hP 0 rfl rfl 1 (by decide) (hts _ w_20) (fun _ h9 => h9) rfl d_RF_put_90 ?_
            refine lv_iconst (v := 1) hx hb d_RF_put_93 (by decide) ?_
            refine lv_iadd hx hb d_RF_put_94 ?_
            refine va_put (D := D) (ci := 3) (v := .int (wc + 1)) (ty := .int) (C := "RayField") (T := F_RF) (N := 5) hx hb hts in_RF t_RF tok_RF nn_RF hown hK hP hD hS 0 rfl rfl 1 (by decide) (hts _ w_20) (fun _ h9 => h9) rfl (by decide +kernel) rfl rfl (Nat.le_of_ble_eq_true rfl) d_RF_put_95 (fun H locs hP hD hS => ?_)
            have hP : va_P D vwCl (x_3 x wa ma (wc + 1) (nI n) ry cW cM (va_up wf k (some qn)) mf ++ va_pl (L ++ [qn]) (va_up f qn (e_W (a1, a2, b1, b2)))) H := hP
            have hD : va_D A (x_3 x wa ma (wc + 1) (nI n) ry cW cM (va_up wf k (some qn)) mf ++ va_pl (L ++ [qn]) (va_up f qn (e_W (a1, a2, b1, b2)))) := hD
            refine lv_aload_n hx hb d_RF_put_98 rfl (lv_at hl 2 rfl) ?_
            have hFc := rf_freeW hD hS hA
            refine va_callv (rf_runV (As := []) (rest := []) S0 ml_RF_44 (c_RF_meetAgain l D x wa ma (wc + 1) (nI n) ry cW cM (va_up wf k (some qn)) mf (L ++ [qn]) (va_up f qn (e_W (a1, a2, b1, b2))) (va_up wl k (some (a1, a2, b1, b2))) ra hw2 hmp1 hry1 H.size) hE (va_recv hK hP (ci := 3) (q0 := 0) rfl rfl) ⟨rfl, hP, hD.weaken (fun _ _ _ _ => trivial)⟩ ⟨rfl, rfl, Nat.le_of_ble_eq_true rfl, Nat.le_of_ble_eq_true rfl⟩ rfl hl.1 rfl (Nat.le_of_ble_eq_true rfl) d_RF_put_99 ⟨show 1 + 64 ≤ 65 by decide, show 4 + 320 ≤ 324 by decide⟩) hS (fun q _ h => hFc q h) hFc (fun u t H1 locs ht hvm hu hB hz1 hk1 hS => ?_)
            obtain ⟨hP, hD1⟩ := hB
            rw [ht] at hP
            have hD := hD1.weaken (fun k q _ h => hFc q.1 h)
            generalize H1 = H at hP hS ⊢
            obtain ⟨L9, f9, mf9, n9, g9⟩ := u
            have hcf := rf_CF.mk9 hw2 hry1 hu
            dsimp only at hcf hP hD
            have hP : va_P D vwCl (x_3 x wa ma (wc + 1) (nI n9) ry cW cM (va_up wf k (some qn)) mf9 ++ va_pl L9 f9) H := hP
            have hD : va_D A (x_3 x wa ma (wc + 1) (nI n9) ry cW cM (va_up wf k (some qn)) mf9 ++ va_pl L9 f9) := hD
            refine lv_iload hx hb d_RF_put_102 (lv_at hl 1 rfl) ?_
            refine W.widen (k := 65) (n := 324) (by omega) (by omega) ?_
            exact W.iret (v := nI k) hx hb hr (fun t ht hW => ⟨⟨_, (wc + 1, ry, ra, (va_up wf k (some qn)), (va_up wl k (some (a1, a2, b1, b2))), L9, f9, mf9, n9, g9), rfl, ⟨Or.inl ⟨k, ⟨(h_2.t c_3), (h_5.t c_6), (fun z => c_7 z.1), hk, (hw.iff hk).mp hf1, fun j hj z => hf2 j hj ((hw.iff (by omega)).mpr z), (h_14.f c_15)⟩, rfl, rfl, rfl, rfl, rfl⟩, hcf⟩, by rw [ht]; exact hP, hD⟩, hS.F ht⟩) hS.2.2 d_RF_put_104
          · refine lv_iconst (v := -1) hx hb d_RF_put_77 (by decide) ?_
            refine W.widen (k := 65) (n := 324) (by omega) (by omega) ?_
            exact W.iret (v := (-1)) hx hb hr (fun t ht hW => ⟨⟨_, (wc, ry, ra, wf, wl, (L ++ [qn]), (va_up f qn (e_W (a1, a2, b1, b2))), mf, n, g), rfl, ⟨Or.inr ⟨(fun k h => h.2.2.2.2.2.2 (h_14.t c_15)), rfl, rfl, rfl, rfl, rfl⟩, hcn⟩, by rw [ht]; exact hP, hD⟩, hS.F ht⟩) hS.2.2 d_RF_put_78
        · subst ek
          refine lv_istore (lv' := [(5, .int (-1)), (0, .ref x), (1, .int a1), (2, .int a2), (3, .int b1), (4, .int b2)]) hx hb d_RF_put_42 hl (by decide) rfl (fun ls hl => ?_)
          refine lv_iload hx hb d_RF_put_44 (lv_at hl 0 rfl) ?_
          refine vp_callSi (va_Run.run (rf_runS (As := [.int (-1)]) (rest := []) S0 ml_RF_29 (c_RF_isNumber l D (x_t cW cM) (-1)) hE trivial ⟨rfl, rfl, Nat.le_of_ble_eq_true rfl, Nat.le_of_ble_eq_true rfl⟩ rfl hl.1 rfl (Nat.le_of_ble_eq_true rfl) d_RF_put_46 ⟨Nat.zero_le _, Nat.zero_le _⟩)) (fun r_16 h_17 => ?_)
          refine lv_if_ne (tgt := 54) hx hb d_RF_put_49 (by decide) (fun c_18 => absurd (h_17.t c_18).1 (by decide)) (fun c_18 => ?_)
          refine lv_iconst (v := -1) hx hb d_RF_put_52 (by decide) ?_
          refine W.widen (k := 65) (n := 324) (by omega) (by omega) ?_
          exact W.iret (v := (-1)) hx hb hr (fun t ht hW => ⟨⟨_, (wc, ry, ra, wf, wl, L, f, mf, n, g), rfl, ⟨Or.inr ⟨(fun k h => hf1 k h.2.2.2.1 ((hw.iff h.2.2.2.1).mpr h.2.2.2.2.1)), rfl, rfl, rfl, rfl, rfl⟩, ⟨hw, hmp, hry, hn64, hn0, hM, hgo⟩⟩, by rw [ht]; exact hP, hD⟩, hS.F ht⟩) hS.2.2 d_RF_put_53
      · refine lv_iload_n hx hb d_RF_put_30 rfl (lv_at hl 2 rfl) ?_
        refine lv_iload hx hb d_RF_put_31 (lv_at hl 4 rfl) ?_
        refine lv_icmp_ne (tgt := 38) hx hb d_RF_put_33 (by decide) (fun c_19 => ?_) (fun c_19 => ?_)
        · refine lv_aload_n hx hb d_RF_put_38 rfl (lv_at hl 0 rfl) ?_
          refine vp_callSi (va_Run.run (rf_runV (As := []) (rest := []) S0 ml_RF_25 (c_RF_least l D x wa ma wc (nI n) ry cW cM wf mf L f) hE (va_recv hK hP (ci := 3) (q0 := 0) rfl rfl) hP ⟨rfl, rfl, Nat.le_of_ble_eq_true rfl, Nat.le_of_ble_eq_true rfl⟩ rfl hl.1 rfl (Nat.le_of_ble_eq_true rfl) d_RF_put_39 ⟨Nat.zero_le _, Nat.zero_le _⟩)) (fun r_20 h_21 => ?_)
          rcases h_21 with ⟨k, hk, ek, hf1, hf2⟩ | ⟨ek, hf1⟩
          · subst ek
            refine lv_istore (lv' := [(5, .int (nI k)), (0, .ref x), (1, .int a1), (2, .int a2), (3, .int b1), (4, .int b2)]) hx hb d_RF_put_42 hl (by decide) rfl (fun ls hl => ?_)
            refine lv_iload hx hb d_RF_put_44 (lv_at hl 0 rfl) ?_
            refine vp_callSi (va_Run.run (rf_runS (As := [.int (nI k)]) (rest := []) S0 ml_RF_29 (c_RF_isNumber l D (x_t cW cM) (nI k)) hE trivial ⟨rfl, rfl, Nat.le_of_ble_eq_true rfl, Nat.le_of_ble_eq_true rfl⟩ rfl hl.1 rfl (Nat.le_of_ble_eq_true rfl) d_RF_put_46 ⟨Nat.zero_le _, Nat.zero_le _⟩)) (fun r_22 h_23 => ?_)
            refine lv_if_ne (tgt := 54) hx hb d_RF_put_49 (by decide) (fun c_24 => ?_) (fun c_24 => absurd ⟨nI_pos' (show k < 2 ^ 31 by omega), nI_le (show k ≤ 63 by omega) (by decide)⟩ (h_23.f c_24))
            refine va_new (ci := 0) (fs := [.int 0, .int 0, .int 0, .int 0]) (C := "RayField$Wall") (T := F_Wall) (N := 4) hx hb hts in_Wall t_Wall tok_Wall hown (hts _ w_15) (hts _ w_52) (hts _ w_3) hK hP hD hS hA rfl (fun j hj => by rcases (show j = 0 ∨ j = 1 ∨ j = 2 ∨ j = 3 by omega) with rfl | rfl | rfl | rfl <;> rfl) (Nat.le_of_ble_eq_true rfl) (Nat.le_of_ble_eq_true rfl) d_RF_put_54 (fun qn H hP hD hS => ?_)
            obtain ⟨hqn, hP, hD⟩ := rf_push hP hD
            refine W.widen (k := 1) (n := 4) (by omega) (by omega) ?_
            have hqL : qn ∈ L ++ [qn] := List.mem_append_right _ (List.mem_singleton.mpr rfl)
            have hqf0 : va_up f qn (e_W (0, 0, 0, 0)) qn = e_W (0, 0, 0, 0) := va_up_self _ _ _
            have hP : va_P D vwCl (x_3 x wa ma wc (nI n) ry cW cM wf mf ++ va_pl (L ++ [qn]) (va_up f qn (e_W (0, 0, 0, 0)))) H := hP
            have hD : va_D A (x_3 x wa ma wc (nI n) ry cW cM wf mf ++ va_pl (L ++ [qn]) (va_up f qn (e_W (0, 0, 0, 0)))) := hD
            refine lv_dup hx hb d_RF_put_57 rfl ?_
            refine lv_iload_n hx hb d_RF_put_58 rfl (lv_at hl 2 rfl) ?_
            refine lv_iload_n hx hb d_RF_put_59 rfl (lv_at hl 3 rfl) ?_
            refine lv_iload_n hx hb d_RF_put_60 rfl (lv_at hl 4 rfl) ?_
            refine lv_iload hx hb d_RF_put_61 (lv_at hl 5 rfl) ?_
            have hFc := rf_poolfree (wc := [(qn, (e_W (0, 0, 0, 0)))]) hD hS hA (rf_mem1 hqL)
            refine va_callv (rf_runI (As := [.int a1, .int a2, .int b1, .int b2]) (rest := [.ref qn]) S0 ml_RF_33 (c_Wall_init l D (x_t cW cM) qn a1 a2 b1 b2 H.size) hE ⟨rfl, rf_pl hP hqL hqf0, rf_D1⟩ ⟨rfl, rfl, Nat.le_of_ble_eq_true rfl, Nat.le_of_ble_eq_true rfl⟩ rfl hl.1 rfl (Nat.le_of_ble_eq_true rfl) d_RF_put_63 ⟨Nat.le_of_ble_eq_true rfl, Nat.le_of_ble_eq_true rfl⟩) hS (fun q _ h => hFc q h) hFc (fun u0 t H1 locs ht hvm hw0 hB hz1 hk1 hS => ?_)
            obtain ⟨hP1, hD1⟩ := hB
            rw [ht] at hP1
            obtain ⟨hP, hD⟩ := rf_pool1 (u := (e_W (a1, a2, b1, b2))) hP hD hqL hk1 hP1
            generalize H1 = H at hP hS ⊢
            rw [bx_uu] at hP hD
            refine W.widen (k := 1) (n := 4) (by omega) (by omega) ?_
            have hP : va_P D vwCl (x_3 x wa ma wc (nI n) ry cW cM wf mf ++ va_pl (L ++ [qn]) (va_up f qn (e_W (a1, a2, b1, b2)))) H := hP
            have hD : va_D A (x_3 x wa ma wc (nI n) ry cW cM wf mf ++ va_pl (L ++ [qn]) (va_up f qn (e_W (a1, a2, b1, b2)))) := hD
            have hqf : va_up f qn (e_W (a1, a2, b1, b2)) qn = e_W (a1, a2, b1, b2) := va_up_self _ _ _
            have hcn := rf_CF.new (e := e_W (a1, a2, b1, b2)) hc0 hqn
            obtain ⟨hw1, hmp1, hry1, _, _, hM1, _⟩ := id hcn
            refine lv_astore (lv' := [(6, .ref qn), (5, .int (nI k)), (0, .ref x), (1, .int a1), (2, .int a2), (3, .int b1), (4, .int b2)]) hx hb d_RF_put_66 hl (by decide) rfl (fun ls hl => ?_)
            refine lv_aload_n hx hb d_RF_put_68 rfl (lv_at hl 2 rfl) ?_
            refine lv_aload hx hb d_RF_put_69 (lv_at hl 0 rfl) ?_
            refine vp_callSi (va_Run.run (rf_runV (As := [.ref qn]) (rest := []) S0 ml_RF_36 (c_RF_clashes l D x wa ma wc (nI n) ry cW cM wf mf (L ++ [qn]) (va_up f qn (e_W (a1, a2, b1, b2))) wl hw1 qn (a1, a2, b1, b2) hqL hqf) hE (va_recv hK hP (ci := 3) (q0 := 0) rfl rfl) hP ⟨rfl, rfl, Nat.le_of_ble_eq_true rfl, Nat.le_of_ble_eq_true rfl⟩ rfl hl.1 rfl (Nat.le_of_ble_eq_true rfl) d_RF_put_71 ⟨Nat.le_of_ble_eq_true rfl, Nat.le_of_ble_eq_true rfl⟩)) (fun r_25 h_26 => ?_)
            refine lv_if_eq (tgt := 79) hx hb d_RF_put_74 (by decide) (fun c_27 => ?_) (fun c_27 => ?_)
            · refine lv_aload_n hx hb d_RF_put_79 rfl (lv_at hl 2 rfl) ?_
              refine va_get (D := D) (ci := 3) (v := .ref wa) (C := "RayField") (T := F_RF) (N := 5) hx hb hts in_RF hown hK hP 0 rfl rfl 0 (by decide) (hts _ w_19) (fun _ h9 => h9) rfl d_RF_put_80 ?_
              refine lv_iload hx hb d_RF_put_83 (lv_at hl 1 rfl) ?_
              refine lv_aload hx hb d_RF_put_85 (lv_at hl 0 rfl) ?_
              obtain ⟨kq, hkq⟩ := va_pl_get (X := x_3 x wa ma wc (nI n) ry cW cM wf mf) (f := (va_up f qn (e_W (a1, a2, b1, b2)))) hqL
              rw [hqf] at hkq
              refine rf_astq (r := ("RayField$Wall", F_Wall, 4)) hx hb hK hP hD hS 1 0 kq 0 rfl rfl hkq rfl hk (by decide) d_RF_put_87 (fun H locs hP hD hS => ?_)
              have hP : va_P D vwCl (x_3 x wa ma wc (nI n) ry cW cM (va_up wf k (some qn)) mf ++ va_pl (L ++ [qn]) (va_up f qn (e_W (a1, a2, b1, b2)))) H := hP
              have hD : va_D A (x_3 x wa ma wc (nI n) ry cW cM (va_up wf k (some qn)) mf ++ va_pl (L ++ [qn]) (va_up f qn (e_W (a1, a2, b1, b2)))) := hD
              have hw2 := hw1.put (k := k) hqL hqf (hw.fresh hqn)
              refine lv_aload_n hx hb d_RF_put_88 rfl (lv_at hl 2 rfl) ?_
              refine lv_dup hx hb d_RF_put_89 rfl ?_
              refine va_get (D := D) (ci := 3) (v := .int wc) (C := "RayField") (T := F_RF) (N := 5) hx hb hts in_RF hown hK hP 0 rfl rfl 1 (by decide) (hts _ w_20) (fun _ h9 => h9) rfl d_RF_put_90 ?_
              refine lv_iconst (v := 1) hx hb d_RF_put_93 (by decide) ?_
              refine lv_iadd hx hb d_RF_put_94 ?_
              refine va_put (D := D) (ci := 3) (v := .int (wc + 1)) (ty := .int) (C := "RayField") (T := F_RF) (N := 5) hx hb hts in_RF t_RF tok_RF nn_RF hown hK hP hD hS 0 rfl rfl 1 (by decide) (hts _ w_20) (fun _ h9 => h9) rfl (by decide +kernel) rfl rfl (Nat.le_of_ble_eq_true rfl) d_RF_put_95 (fun H locs hP hD hS => ?_)
              have hP : va_P D vwCl (x_3 x wa ma (wc + 1) (nI n) ry cW cM (va_up wf k (some qn)) mf ++ va_pl (L ++ [qn]) (va_up f qn (e_W (a1, a2, b1, b2)))) H := hP
              have hD : va_D A (x_3 x wa ma (wc + 1) (nI n) ry cW cM (va_up wf k (some qn)) mf ++ va_pl (L ++ [qn]) (va_up f qn (e_W (a1, a2, b1, b2)))) := hD
              refine lv_aload_n hx hb d_RF_put_98 rfl (lv_at hl 2 rfl) ?_
              have hFc := rf_freeW hD hS hA
              refine va_callv (rf_runV (As := []) (rest := []) S0 ml_RF_44 (c_RF_meetAgain l D x wa ma (wc + 1) (nI n) ry cW cM (va_up wf k (some qn)) mf (L ++ [qn]) (va_up f qn (e_W (a1, a2, b1, b2))) (va_up wl k (some (a1, a2, b1, b2))) ra hw2 hmp1 hry1 H.size) hE (va_recv hK hP (ci := 3) (q0 := 0) rfl rfl) ⟨rfl, hP, hD.weaken (fun _ _ _ _ => trivial)⟩ ⟨rfl, rfl, Nat.le_of_ble_eq_true rfl, Nat.le_of_ble_eq_true rfl⟩ rfl hl.1 rfl (Nat.le_of_ble_eq_true rfl) d_RF_put_99 ⟨show 1 + 64 ≤ 65 by decide, show 4 + 320 ≤ 324 by decide⟩) hS (fun q _ h => hFc q h) hFc (fun u t H1 locs ht hvm hu hB hz1 hk1 hS => ?_)
              obtain ⟨hP, hD1⟩ := hB
              rw [ht] at hP
              have hD := hD1.weaken (fun k q _ h => hFc q.1 h)
              generalize H1 = H at hP hS ⊢
              obtain ⟨L9, f9, mf9, n9, g9⟩ := u
              have hcf := rf_CF.mk9 hw2 hry1 hu
              dsimp only at hcf hP hD
              have hP : va_P D vwCl (x_3 x wa ma (wc + 1) (nI n9) ry cW cM (va_up wf k (some qn)) mf9 ++ va_pl L9 f9) H := hP
              have hD : va_D A (x_3 x wa ma (wc + 1) (nI n9) ry cW cM (va_up wf k (some qn)) mf9 ++ va_pl L9 f9) := hD
              refine lv_iload hx hb d_RF_put_102 (lv_at hl 1 rfl) ?_
              refine W.widen (k := 65) (n := 324) (by omega) (by omega) ?_
              exact W.iret (v := nI k) hx hb hr (fun t ht hW => ⟨⟨_, (wc + 1, ry, ra, (va_up wf k (some qn)), (va_up wl k (some (a1, a2, b1, b2))), L9, f9, mf9, n9, g9), rfl, ⟨Or.inl ⟨k, ⟨(h_2.t c_3), (h_5.t c_6), (fun z => c_19 z.2), hk, (hw.iff hk).mp hf1, fun j hj z => hf2 j hj ((hw.iff (by omega)).mpr z), (h_26.f c_27)⟩, rfl, rfl, rfl, rfl, rfl⟩, hcf⟩, by rw [ht]; exact hP, hD⟩, hS.F ht⟩) hS.2.2 d_RF_put_104
            · refine lv_iconst (v := -1) hx hb d_RF_put_77 (by decide) ?_
              refine W.widen (k := 65) (n := 324) (by omega) (by omega) ?_
              exact W.iret (v := (-1)) hx hb hr (fun t ht hW => ⟨⟨_, (wc, ry, ra, wf, wl, (L ++ [qn]), (va_up f qn (e_W (a1, a2, b1, b2))), mf, n, g), rfl, ⟨Or.inr ⟨(fun k h => h.2.2.2.2.2.2 (h_26.t c_27)), rfl, rfl, rfl, rfl, rfl⟩, hcn⟩, by rw [ht]; exact hP, hD⟩, hS.F ht⟩) hS.2.2 d_RF_put_78
          · subst ek
            refine lv_istore (lv' := [(5, .int (-1)), (0, .ref x), (1, .int a1), (2, .int a2), (3, .int b1), (4, .int b2)]) hx hb d_RF_put_42 hl (by decide) rfl (fun ls hl => ?_)
            refine lv_iload hx hb d_RF_put_44 (lv_at hl 0 rfl) ?_
            refine vp_callSi (va_Run.run (rf_runS (As := [.int (-1)]) (rest := []) S0 ml_RF_29 (c_RF_isNumber l D (x_t cW cM) (-1)) hE trivial ⟨rfl, rfl, Nat.le_of_ble_eq_true rfl, Nat.le_of_ble_eq_true rfl⟩ rfl hl.1 rfl (Nat.le_of_ble_eq_true rfl) d_RF_put_46 ⟨Nat.zero_le _, Nat.zero_le _⟩)) (fun r_28 h_29 => ?_)
            refine lv_if_ne (tgt := 54) hx hb d_RF_put_49 (by decide) (fun c_30 => absurd (h_29.t c_30).1 (by decide)) (fun c_30 => ?_)
            refine lv_iconst (v := -1) hx hb d_RF_put_52 (by decide) ?_
            refine W.widen (k := 65) (n := 324) (by omega) (by omega) ?_
            exact W.iret (v := (-1)) hx hb hr (fun t ht hW => ⟨⟨_, (wc, ry, ra, wf, wl, L, f, mf, n, g), rfl, ⟨Or.inr ⟨(fun k h => hf1 k h.2.2.2.1 ((hw.iff h.2.2.2.1).mpr h.2.2.2.2.1)), rfl, rfl, rfl, rfl, rfl⟩, ⟨hw, hmp, hry, hn64, hn0, hM, hgo⟩⟩, by rw [ht]; exact hP, hD⟩, hS.F ht⟩) hS.2.2 d_RF_put_53
        · refine lv_iconst (v := -1) hx hb d_RF_put_36 (by decide) ?_
          refine W.widen (k := 65) (n := 324) (by omega) (by omega) ?_
          exact W.iret (v := (-1)) hx hb hr (fun t ht hW => ⟨⟨_, (wc, ry, ra, wf, wl, L, f, mf, n, g), rfl, ⟨Or.inr ⟨(fun k h => h.2.2.1 ⟨c_7, c_19⟩), rfl, rfl, rfl, rfl, rfl⟩, ⟨hw, hmp, hry, hn64, hn0, hM, hgo⟩⟩, by rw [ht]; exact hP, hD⟩, hS.F ht⟩) hS.2.2 d_RF_put_37
    · refine lv_iconst (v := -1) hx hb d_RF_put_23 (by decide) ?_
      refine W.widen (k := 65) (n := 324) (by omega) (by omega) ?_
      exact W.iret (v := (-1)) hx hb hr (fun t ht hW => ⟨⟨_, (wc, ry, ra, wf, wl, L, f, mf, n, g), rfl, ⟨Or.inr ⟨(fun k h => (h_5.f c_6) h.2.1), rfl, rfl, rfl, rfl, rfl⟩, ⟨hw, hmp, hry, hn64, hn0, hM, hgo⟩⟩, by rw [ht]; exact hP, hD⟩, hS.F ht⟩) hS.2.2 d_RF_put_24
set_option maxHeartbeats 4000000 in
set_option maxRecDepth 100000 in
theorem c_RF_ray (l : Launch) (D : va_G) (x wa ma : Nat) (wc mc : Int32) (ry : Option Nat) (cW cM : ClassId) (wf mf : Nat → Option Nat) (L : List Nat) (f : Nat → va_E) (wl : Nat → Option Q4) (ra : Q4) (n : Nat) (g : Nat → Nat) (hc : rf_CF wl ra ry wf mf L f n g) (a1 a2 b1 b2 : Int32) (sz : Nat) : Met l y_RF_ray (.code y_RF_ray b_RF_ray 5 (some (.boolean)) :: BIG) { frames := 5, cells := 65, slots := 324, locals := 200 } (rf_Pc D (x_t cW cM) [.ref x, .int a1, .int a2, .int b1, .int b2] (fun h => h.size = sz ∧ va_P D vwCl (x_3 x wa ma wc (nI n) ry cW cM wf mf ++ va_pl L f) h ∧ va_D (fun _ => True) (x_3 x wa ma wc (nI n) ry cW cM wf mf ++ va_pl L f))) (va_Qi (S := Int32 × Option Nat × Q4 × (Nat → Option Nat) × (Nat → Option Q4) × List Nat × (Nat → va_E) × (Nat → Option Nat) × Nat × (Nat → Nat)) (fun r u => ((m_place a1 a2 4000 ∧ m_place b1 b2 20000 ∧ ¬ (b1 = 0 ∧ b2 = 0) ∧ r = 1 ∧ u.2.2.2.2.1 = wl ∧ u.1 = wc ∧ (∃ q, u.2.1 = some q) ∧ u.2.2.1 = (a1, a2, b1, b2)) ∨ (¬ (m_place a1 a2 4000 ∧ m_place b1 b2 20000 ∧ ¬ (b1 = 0 ∧ b2 = 0)) ∧ r = 0 ∧ u.2.2.2.2.1 = wl ∧ u.1 = wc ∧ u.2.1 = ry ∧ u.2.2.1 = ra)) ∧ rf_CF u.2.2.2.2.1 u.2.2.1 u.2.1 u.2.2.2.1 u.2.2.2.2.2.2.2.1 u.2.2.2.2.2.1 u.2.2.2.2.2.2.1 u.2.2.2.2.2.2.2.2.1 u.2.2.2.2.2.2.2.2.2) (fun u t => va_P D vwCl (x_3 x wa ma u.1 (nI u.2.2.2.2.2.2.2.2.1) u.2.1 cW cM u.2.2.2.1 u.2.2.2.2.2.2.2.1 ++ va_pl u.2.2.2.2.2.1 u.2.2.2.2.2.2.1) t.heap ∧ va_D (va_A (x_3 x wa ma wc (nI n) ry cW cM wf mf ++ va_pl L f) sz) (x_3 x wa ma u.1 (nI u.2.2.2.2.2.2.2.2.1) u.2.1 cW cM u.2.2.2.1 u.2.2.2.2.2.2.2.1 ++ va_pl u.2.2.2.2.2.1 u.2.2.2.2.2.2.1)) (va_A (x_3 x wa ma wc (nI n) ry cW cM wf mf ++ va_pl L f) sz)) 65 324 (va_A (x_3 x wa ma wc (nI n) ry cW cM wf mf ++ va_pl L f) sz) := by
  refine Met.ofW (cc := b_RF_ray) (maxL := 5) (ret := (some (.boolean))) (by decide) rfl ?_
  intro p e s m args below meth c s₁ B hml hv
  obtain ⟨rfl, hE, hP⟩ := hv
  have hx := B.exec
  have hb := B.bytes
  have hr := B.returns
  have hts : ∀ w ∈ BIG, w.before [.ref x, .int a1, .int a2, .int b1, .int b2].toArray s = true := fun w h => atoms_spec (ws := .code y_RF_ray b_RF_ray 5 (some (.boolean)) :: BIG) B.pre w (List.mem_cons_of_mem _ h)
  have hown : s.vm.findClass "RayField" = some m.cls := findClass_of_methodNamed B.named
  have hlocks := B.notSynchronized
  have hK := hE.2
  have S0 : CallFix p m c b_RF_ray 5 s [.ref x, .int a1, .int a2, .int b1, .int b2].toArray BIG "RayField" := ⟨hx, hb, hml, hown, hts⟩
  have hl := lv_entry ([.ref x, .int a1, .int a2, .int b1, .int b2]) (n := 5) (Nat.le_of_ble_eq_true rfl)
  rw [lg_entry_eq]
  generalize (lg_sl ([.ref x, .int a1, .int a2, .int b1, .int b2]) ++ List.replicate (5 - (lg_sl ([.ref x, .int a1, .int a2, .int b1, .int b2])).length) Slot.unset).toArray = ls at hl ⊢
  have hl : lv_has ls 5 [(0, .ref x), (1, .int a1), (2, .int a2), (3, .int b1), (4, .int b2)] := hl
  obtain ⟨hsz, hP, hD0⟩ := hP
  subst hsz
  have hD := hD0.self (sz := s.heap.size)
  generalize hAe : va_A (x_3 x wa ma wc (nI n) ry cW cM wf mf ++ va_pl L f) s.heap.size = A at hD ⊢
  have hA : ∀ q : Nat, s.heap.size ≤ q → A q := fun q h => by rw [← hAe]; exact Or.inr h
  obtain ⟨H, hH⟩ : ∃ H : Heap, H = s.heap := ⟨_, rfl⟩
  refine rf_heap hH ?_
  have hS : va_S A s.heap H [] := by rw [hH]; exact va_S.rf
  have hP : va_P D vwCl (x_3 x wa ma wc (nI n) ry cW cM wf mf ++ va_pl L f) H := by rw [hH]; exact hP
  obtain ⟨hw, hmp, hry, hn64, hn0, hM, hgo⟩ := hc
  refine lv_iload_n hx hb d_RF_ray_0 rfl (lv_at hl 1 rfl) ?_
  refine lv_iload_n hx hb d_RF_ray_1 rfl (lv_at hl 2 rfl) ?_
  refine lv_sipush (v := 4000) hx hb d_RF_ray_2 (by decide) ?_
  refine vp_callSi (va_Run.run (rf_runS (As := [.int a1, .int a2, .int 4000]) (rest := []) S0 ml_RF_21 (c_RF_isPlace l D (x_t cW cM) a1 a2 4000) hE trivial ⟨rfl, rfl, Nat.le_of_ble_eq_true rfl, Nat.le_of_ble_eq_true rfl⟩ rfl hl.1 rfl (Nat.le_of_ble_eq_true rfl) d_RF_ray_5 ⟨Nat.zero_le _, Nat.zero_le _⟩)) (fun r_1 h_2 => ?_)
  refine lv_if_eq (tgt := 23) hx hb d_RF_ray_8 (by decide) (fun c_3 => ?_) (fun c_3 => ?_)
  · refine lv_iconst (v := 0) hx hb d_RF_ray_23 (by decide) ?_
    refine W.widen (k := 65) (n := 324) (by omega) (by omega) ?_
    exact W.zret (v := 0) (ty := .boolean) hx hb hr rfl (fun t ht hW => ⟨⟨_, (wc, ry, ra, wf, wl, L, f, mf, n, g), rfl, ⟨Or.inr ⟨(fun h => (h_2.f c_3) h.1), rfl, rfl, rfl, rfl, rfl⟩, ⟨hw, hmp, hry, hn64, hn0, hM, hgo⟩⟩, by rw [ht]; exact hP, hD⟩, hS.F ht⟩) hS.2.2 d_RF_ray_24
  · refine lv_iload_n hx hb d_RF_ray_11 rfl (lv_at hl 3 rfl) ?_
    refine lv_iload hx hb d_RF_ray_12 (lv_at hl 4 rfl) ?_
    refine lv_sipush (v := 20000) hx hb d_RF_ray_14 (by decide) ?_
    refine vp_callSi (va_Run.run (rf_runS (As := [.int b1, .int b2, .int 20000]) (rest := []) S0 ml_RF_21 (c_RF_isPlace l D (x_t cW cM) b1 b2 20000) hE trivial ⟨rfl, rfl, Nat.le_of_ble_eq_true rfl, Nat.le_of_ble_eq_true rfl⟩ rfl hl.1 rfl (Nat.le_of_ble_eq_true rfl) d_RF_ray_17 ⟨Nat.zero_le _, Nat.zero_le _⟩)) (fun r_4 h_5 => ?_)
    refine lv_if_ne (tgt := 25) hx hb d_RF_ray_20 (by decide) (fun c_6 => ?_) (fun c_6 => ?_)
    · refine lv_iload_n hx hb d_RF_ray_25 rfl (lv_at hl 3 rfl) ?_
      refine lv_if_ne (tgt := 36) hx hb d_RF_ray_26 (by decide) (fun c_7 => ?_) (fun c_7 => ?_)
      · refine lv_aload_n hx hb d_RF_ray_36 rfl (lv_at hl 0 rfl) ?_
        refine va_new (ci := 1) (fs := [.int 0, .int 0, .int 0, .int 0]) (C := "RayField$Ray") (T := F_Ray) (N := 4) hx hb hts in_Ray t_Ray tok_Ray hown (hts _ w_192) (hts _ w_193) (hts _ w_6) hK hP hD hS hA rfl (fun j hj => by rcases (show j = 0 ∨ j = 1 ∨ j = 2 ∨ j = 3 by omega) with rfl | rfl | rfl | rfl <;> rfl) (Nat.le_of_ble_eq_true rfl) (Nat.le_of_ble_eq_true rfl) d_RF_ray_37 (fun qn H hP hD hS => ?_)
        obtain ⟨hqn, hP, hD⟩ := rf_push hP hD
        refine W.widen (k := 1) (n := 4) (by omega) (by omega) ?_
        have hqL : qn ∈ L ++ [qn] := List.mem_append_right _ (List.mem_singleton.mpr rfl)
        have hqf0 : va_up f qn (e_R (0, 0, 0, 0)) qn = e_R (0, 0, 0, 0) := va_up_self _ _ _
        have hP : va_P D vwCl (x_3 x wa ma wc (nI n) ry cW cM wf mf ++ va_pl (L ++ [qn]) (va_up f qn (e_R (0, 0, 0, 0)))) H := hP
        have hD : va_D A (x_3 x wa ma wc (nI n) ry cW cM wf mf ++ va_pl (L ++ [qn]) (va_up f qn (e_R (0, 0, 0, 0)))) := hD
        refine lv_dup hx hb d_RF_ray_40 rfl ?_
        refine lv_iload_n hx hb d_RF_ray_41 rfl (lv_at hl 1 rfl) ?_
        refine lv_iload_n hx hb d_RF_ray_42 rfl (lv_at hl 2 rfl) ?_
        refine lv_iload_n hx hb d_RF_ray_43 rfl (lv_at hl 3 rfl) ?_
        refine lv_iload hx hb d_RF_ray_44 (lv_at hl 4 rfl) ?_
        have hFc := rf_poolfree (wc := [(qn, (e_R (0, 0, 0, 0)))]) hD hS hA (rf_mem1 hqL)
        refine va_callv (rf_runI (As := [.int a1, .int a2, .int b1, .int b2]) (rest := [.ref qn, .ref x]) S0 ml_RF_56 (c_Ray_init l D (x_t cW cM) qn a1 a2 b1 b2 H.size) hE ⟨rfl, rf_pl hP hqL hqf0, rf_D1⟩ ⟨rfl, rfl, Nat.le_of_ble_eq_true rfl, Nat.le_of_ble_eq_true rfl⟩ rfl hl.1 rfl (Nat.le_of_ble_eq_true rfl) d_RF_ray_46 ⟨Nat.le_of_ble_eq_true rfl, Nat.le_of_ble_eq_true rfl⟩) hS (fun q _ h => hFc q h) hFc (fun u0 t H1 locs ht hvm hw0 hB hz1 hk1 hS => ?_)
        obtain ⟨hP1, hD1⟩ := hB
        rw [ht] at hP1
        obtain ⟨hP, hD⟩ := rf_pool1 (u := (e_R (a1, a2, b1, b2))) hP hD hqL hk1 hP1
        generalize H1 = H at hP hS ⊢
        rw [bx_uu] at hP hD
        refine W.widen (k := 1) (n := 4) (by omega) (by omega) ?_
        have hP : va_P D vwCl (x_3 x wa ma wc (nI n) ry cW cM wf mf ++ va_pl (L ++ [qn]) (va_up f qn (e_R (a1, a2, b1, b2)))) H := hP
        have hD : va_D A (x_3 x wa ma wc (nI n) ry cW cM wf mf ++ va_pl (L ++ [qn]) (va_up f qn (e_R (a1, a2, b1, b2)))) := hD
        have hqf : va_up f qn (e_R (a1, a2, b1, b2)) qn = e_R (a1, a2, b1, b2) := va_up_self _ _ _
        have hkp : rf_keep L f (L ++ [qn]) (va_up f qn (e_R (a1, a2, b1, b2))) := rf_keep.new hqn
        have hw1 := hw.keep hkp
        have hmp1 := hmp.keep (e := e_R (a1, a2, b1, b2)) hqn
        have hry1 : ∀ q, some qn = some q → q ∈ L ++ [qn] ∧ va_up f qn (e_R (a1, a2, b1, b2)) q = e_R (a1, a2, b1, b2) := fun q z => by cases z; exact ⟨hqL, hqf⟩
        refine va_put (D := D) (ci := 3) (v := .ref qn) (ty := (.object "RayField$Ray")) (C := "RayField") (T := F_RF) (N := 5) hx hb hts in_RF t_RF tok_RF nn_RF hown hK hP hD hS 0 rfl rfl 2 (by decide) (hts _ w_21) (fun _ h9 => h9) rfl (by decide +kernel) rfl rfl (Nat.le_of_ble_eq_true rfl) d_RF_ray_49 (fun H locs hP hD hS => ?_)
        have hP : va_P D vwCl (x_3 x wa ma wc (nI n) (some qn) cW cM wf mf ++ va_pl (L ++ [qn]) (va_up f qn (e_R (a1, a2, b1, b2)))) H := hP
        have hD : va_D A (x_3 x wa ma wc (nI n) (some qn) cW cM wf mf ++ va_pl (L ++ [qn]) (va_up f qn (e_R (a1, a2, b1, b2)))) := hD
        refine lv_aload_n hx hb d_RF_ray_52 rfl (lv_at hl 0 rfl) ?_
        have hFc := rf_freeW hD hS hA
        refine va_callv (rf_runV (As := []) (rest := []) S0 ml_RF_44 (c_RF_meetAgain l D x wa ma wc (nI n) (some qn) cW cM wf mf (L ++ [qn]) (va_up f qn (e_R (a1, a2, b1, b2))) wl (a1, a2, b1, b2) hw1 hmp1 hry1 H.size) hE (va_recv hK hP (ci := 3) (q0 := 0) rfl rfl) ⟨rfl, hP, hD.weaken (fun _ _ _ _ => trivial)⟩ ⟨rfl, rfl, Nat.le_of_ble_eq_true rfl, Nat.le_of_ble_eq_true rfl⟩ rfl hl.1 rfl (Nat.le_of_ble_eq_true rfl) d_RF_ray_53 ⟨show 1 + 64 ≤ 65 by decide, show 4 + 320 ≤ 324 by decide⟩) hS (fun q _ h => hFc q h) hFc (fun u t H1 locs ht hvm hu hB hz1 hk1 hS => ?_)
        obtain ⟨hP, hD1⟩ := hB
        rw [ht] at hP
        have hD := hD1.weaken (fun k q _ h => hFc q.1 h)
        generalize H1 = H at hP hS ⊢
        obtain ⟨L9, f9, mf9, n9, g9⟩ := u
        have hcf := rf_CF.mk9 hw1 hry1 hu
        dsimp only at hcf hP hD
        have hP : va_P D vwCl (x_3 x wa ma wc (nI n9) (some qn) cW cM wf mf9 ++ va_pl L9 f9) H := hP
        have hD : va_D A (x_3 x wa ma wc (nI n9) (some qn) cW cM wf mf9 ++ va_pl L9 f9) := hD
        refine lv_iconst (v := 1) hx hb d_RF_ray_56 (by decide) ?_
        refine W.widen (k := 65) (n := 324) (by omega) (by omega) ?_
        exact W.zret (v := 1) (ty := .boolean) hx hb hr rfl (fun t ht hW => ⟨⟨_, (wc, (some qn), (a1, a2, b1, b2), wf, wl, L9, f9, mf9, n9, g9), rfl, ⟨Or.inl ⟨(h_2.t c_3), (h_5.t c_6), (fun z => c_7 z.1), rfl, rfl, rfl, ⟨_, rfl⟩, rfl⟩, hcf⟩, by rw [ht]; exact hP, hD⟩, hS.F ht⟩) hS.2.2 d_RF_ray_57
      · refine lv_iload hx hb d_RF_ray_29 (lv_at hl 4 rfl) ?_
        refine lv_if_ne (tgt := 36) hx hb d_RF_ray_31 (by decide) (fun c_8 => ?_) (fun c_8 => ?_)
        · refine lv_aload_n hx hb d_RF_ray_36 rfl (lv_at hl 0 rfl) ?_
          refine va_new (ci := 1) (fs := [.int 0, .int 0, .int 0, .int 0]) (C := "RayField$Ray") (T := F_Ray) (N := 4) hx hb hts in_Ray t_Ray tok_Ray hown (hts _ w_192) (hts _ w_193) (hts _ w_6) hK hP hD hS hA rfl (fun j hj => by rcases (show j = 0 ∨ j = 1 ∨ j = 2 ∨ j = 3 by omega) with rfl | rfl | rfl | rfl <;> rfl) (Nat.le_of_ble_eq_true rfl) (Nat.le_of_ble_eq_true rfl) d_RF_ray_37 (fun qn H hP hD hS => ?_)
          obtain ⟨hqn, hP, hD⟩ := rf_push hP hD
          refine W.widen (k := 1) (n := 4) (by omega) (by omega) ?_
          have hqL : qn ∈ L ++ [qn] := List.mem_append_right _ (List.mem_singleton.mpr rfl)
          have hqf0 : va_up f qn (e_R (0, 0, 0, 0)) qn = e_R (0, 0, 0, 0) := va_up_self _ _ _
          have hP : va_P D vwCl (x_3 x wa ma wc (nI n) ry cW cM wf mf ++ va_pl (L ++ [qn]) (va_up f qn (e_R (0, 0, 0, 0)))) H := hP
          have hD : va_D A (x_3 x wa ma wc (nI n) ry cW cM wf mf ++ va_pl (L ++ [qn]) (va_up f qn (e_R (0, 0, 0, 0)))) := hD
          refine lv_dup hx hb d_RF_ray_40 rfl ?_
          refine lv_iload_n hx hb d_RF_ray_41 rfl (lv_at hl 1 rfl) ?_
          refine lv_iload_n hx hb d_RF_ray_42 rfl (lv_at hl 2 rfl) ?_
          refine lv_iload_n hx hb d_RF_ray_43 rfl (lv_at hl 3 rfl) ?_
          refine lv_iload hx hb d_RF_ray_44 (lv_at hl 4 rfl) ?_
          have hFc := rf_poolfree (wc := [(qn, (e_R (0, 0, 0, 0)))]) hD hS hA (rf_mem1 hqL)
          refine va_callv (rf_runI (As := [.int a1, .int a2, .int b1, .int b2]) (rest := [.ref qn, .ref x]) S0 ml_RF_56 (c_Ray_init l D (x_t cW cM) qn a1 a2 b1 b2 H.size) hE ⟨rfl, rf_pl hP hqL hqf0, rf_D1⟩ ⟨rfl, rfl, Nat.le_of_ble_eq_true rfl, Nat.le_of_ble_eq_true rfl⟩ rfl hl.1 rfl (Nat.le_of_ble_eq_true rfl) d_RF_ray_46 ⟨Nat.le_of_ble_eq_true rfl, Nat.le_of_ble_eq_true rfl⟩) hS (fun q _ h => hFc q h) hFc (fun u0 t H1 locs ht hvm hw0 hB hz1 hk1 hS => ?_)
          obtain ⟨hP1, hD1⟩ := hB
          rw [ht] at hP1
          obtain ⟨hP, hD⟩ := rf_pool1 (u := (e_R (a1, a2, b1, b2))) hP hD hqL hk1 hP1
          generalize H1 = H at hP hS ⊢
          rw [bx_uu] at hP hD
          refine W.widen (k := 1) (n := 4) (by omega) (by omega) ?_
          have hP : va_P D vwCl (x_3 x wa ma wc (nI n) ry cW cM wf mf ++ va_pl (L ++ [qn]) (va_up f qn (e_R (a1, a2, b1, b2)))) H := hP
          have hD : va_D A (x_3 x wa ma wc (nI n) ry cW cM wf mf ++ va_pl (L ++ [qn]) (va_up f qn (e_R (a1, a2, b1, b2)))) := hD
          have hqf : va_up f qn (e_R (a1, a2, b1, b2)) qn = e_R (a1, a2, b1, b2) := va_up_self _ _ _
          have hkp : rf_keep L f (L ++ [qn]) (va_up f qn (e_R (a1, a2, b1, b2))) := rf_keep.new hqn
          have hw1 := hw.keep hkp
          have hmp1 := hmp.keep (e := e_R (a1, a2, b1, b2)) hqn
          have hry1 : ∀ q, some qn = some q → q ∈ L ++ [qn] ∧ va_up f qn (e_R (a1, a2, b1, b2)) q = e_R (a1, a2, b1, b2) := fun q z => by cases z; exact ⟨hqL, hqf⟩
          refine va_put (D := D) (ci := 3) (v := .ref qn) (ty := (.object "RayField$Ray")) (C := "RayField") (T := F_RF) (N := 5) hx hb hts in_RF t_RF tok_RF nn_RF hown hK hP hD hS 0 rfl rfl 2 (by decide) (hts _ w_21) (fun _ h9 => h9) rfl (by decide +kernel) rfl rfl (Nat.le_of_ble_eq_true rfl) d_RF_ray_49 (fun H locs hP hD hS => ?_)
          have hP : va_P D vwCl (x_3 x wa ma wc (nI n) (some qn) cW cM wf mf ++ va_pl (L ++ [qn]) (va_up f qn (e_R (a1, a2, b1, b2)))) H := hP
          have hD : va_D A (x_3 x wa ma wc (nI n) (some qn) cW cM wf mf ++ va_pl (L ++ [qn]) (va_up f qn (e_R (a1, a2, b1, b2)))) := hD
          refine lv_aload_n hx hb d_RF_ray_52 rfl (lv_at hl 0 rfl) ?_
          have hFc := rf_freeW hD hS hA
          refine va_callv (rf_runV (As := []) (rest := []) S0 ml_RF_44 (c_RF_meetAgain l D x wa ma wc (nI n) (some qn) cW cM wf mf (L ++ [qn]) (va_up f qn (e_R (a1, a2, b1, b2))) wl (a1, a2, b1, b2) hw1 hmp1 hry1 H.size) hE (va_recv hK hP (ci := 3) (q0 := 0) rfl rfl) ⟨rfl, hP, hD.weaken (fun _ _ _ _ => trivial)⟩ ⟨rfl, rfl, Nat.le_of_ble_eq_true rfl, Nat.le_of_ble_eq_true rfl⟩ rfl hl.1 rfl (Nat.le_of_ble_eq_true rfl) d_RF_ray_53 ⟨show 1 + 64 ≤ 65 by decide, show 4 + 320 ≤ 324 by decide⟩) hS (fun q _ h => hFc q h) hFc (fun u t H1 locs ht hvm hu hB hz1 hk1 hS => ?_)
          obtain ⟨hP, hD1⟩ := hB
          rw [ht] at hP
          have hD := hD1.weaken (fun k q _ h => hFc q.1 h)
          generalize H1 = H at hP hS ⊢
          obtain ⟨L9, f9, mf9, n9, g9⟩ := u
          have hcf := rf_CF.mk9 hw1 hry1 hu
          dsimp only at hcf hP hD
          have hP : va_P D vwCl (x_3 x wa ma wc (nI n9) (some qn) cW cM wf mf9 ++ va_pl L9 f9) H := hP
          have hD : va_D A (x_3 x wa ma wc (nI n9) (some qn) cW cM wf mf9 ++ va_pl L9 f9) := hD
          refine lv_iconst (v := 1) hx hb d_RF_ray_56 (by decide) ?_
          refine W.widen (k := 65) (n := 324) (by omega) (by omega) ?_
          exact W.zret (v := 1) (ty := .boolean) hx hb hr rfl (fun t ht hW => ⟨⟨_, (wc, (some qn), (a1, a2, b1, b2), wf, wl, L9, f9, mf9, n9, g9), rfl, ⟨Or.inl ⟨(h_2.t c_3), (h_5.t c_6), (fun z => c_8 z.2), rfl, rfl, rfl, ⟨_, rfl⟩, rfl⟩, hcf⟩, by rw [ht]; exact hP, hD⟩, hS.F ht⟩) hS.2.2 d_RF_ray_57
        · refine lv_iconst (v := 0) hx hb d_RF_ray_34 (by decide) ?_
          refine W.widen (k := 65) (n := 324) (by omega) (by omega) ?_
          exact W.zret (v := 0) (ty := .boolean) hx hb hr rfl (fun t ht hW => ⟨⟨_, (wc, ry, ra, wf, wl, L, f, mf, n, g), rfl, ⟨Or.inr ⟨(fun h => h.2.2 ⟨c_7, c_8⟩), rfl, rfl, rfl, rfl, rfl⟩, ⟨hw, hmp, hry, hn64, hn0, hM, hgo⟩⟩, by rw [ht]; exact hP, hD⟩, hS.F ht⟩) hS.2.2 d_RF_ray_35
    · refine lv_iconst (v := 0) hx hb d_RF_ray_23 (by decide) ?_
      refine W.widen (k := 65) (n := 324) (by omega) (by omega) ?_
      exact W.zret (v := 0) (ty := .boolean) hx hb hr rfl (fun t ht hW => ⟨⟨_, (wc, ry, ra, wf, wl, L, f, mf, n, g), rfl, ⟨Or.inr ⟨(fun h => (h_5.f c_6) h.2.1), rfl, rfl, rfl, rfl, rfl⟩, ⟨hw, hmp, hry, hn64, hn0, hM, hgo⟩⟩, by rw [ht]; exact hP, hD⟩, hS.F ht⟩) hS.2.2 d_RF_ray_24
set_option maxHeartbeats 4000000 in
set_option maxRecDepth 100000 in
theorem c_RF_clear (l : Launch) (D : va_G) (x wa ma : Nat) (wc mc : Int32) (ry : Option Nat) (cW cM : ClassId) (wf mf : Nat → Option Nat) (L : List Nat) (f : Nat → va_E) (wl : Nat → Option Q4) (ra : Q4) (n : Nat) (g : Nat → Nat) (hc : rf_CF wl ra ry wf mf L f n g) (sz : Nat) : Met l y_RF_clear (.code y_RF_clear b_RF_clear 2 none :: BIG) { frames := 5, cells := 64, slots := 320, locals := 200 } (rf_Pc D (x_t cW cM) [.ref x] (fun h => h.size = sz ∧ va_P D vwCl (x_3 x wa ma wc (nI n) ry cW cM wf mf ++ va_pl L f) h ∧ va_D (fun _ => True) (x_3 x wa ma wc (nI n) ry cW cM wf mf ++ va_pl L f))) (va_Qv (S := Int32 × Option Nat × Q4 × (Nat → Option Nat) × (Nat → Option Q4) × List Nat × (Nat → va_E) × (Nat → Option Nat) × Nat × (Nat → Nat)) (fun u => (u.2.2.2.2.1 = (fun _ => none) ∧ u.1 = 0 ∧ u.2.1 = ry ∧ u.2.2.1 = ra) ∧ rf_CF u.2.2.2.2.1 u.2.2.1 u.2.1 u.2.2.2.1 u.2.2.2.2.2.2.2.1 u.2.2.2.2.2.1 u.2.2.2.2.2.2.1 u.2.2.2.2.2.2.2.2.1 u.2.2.2.2.2.2.2.2.2) (fun u t => va_P D vwCl (x_3 x wa ma u.1 (nI u.2.2.2.2.2.2.2.2.1) u.2.1 cW cM u.2.2.2.1 u.2.2.2.2.2.2.2.1 ++ va_pl u.2.2.2.2.2.1 u.2.2.2.2.2.2.1) t.heap ∧ va_D (va_A (x_3 x wa ma wc (nI n) ry cW cM wf mf ++ va_pl L f) sz) (x_3 x wa ma u.1 (nI u.2.2.2.2.2.2.2.2.1) u.2.1 cW cM u.2.2.2.1 u.2.2.2.2.2.2.2.1 ++ va_pl u.2.2.2.2.2.1 u.2.2.2.2.2.2.1)) (va_A (x_3 x wa ma wc (nI n) ry cW cM wf mf ++ va_pl L f) sz)) 64 320 (va_A (x_3 x wa ma wc (nI n) ry cW cM wf mf ++ va_pl L f) sz) := by
  refine Met.ofW (cc := b_RF_clear) (maxL := 2) (ret := none) (by decide) rfl ?_
  intro p e s m args below meth c s₁ B hml hv
  obtain ⟨rfl, hE, hP⟩ := hv
  have hx := B.exec
  have hb := B.bytes
  have hr := B.returns
  have hts : ∀ w ∈ BIG, w.before [.ref x].toArray s = true := fun w h => atoms_spec (ws := .code y_RF_clear b_RF_clear 2 none :: BIG) B.pre w (List.mem_cons_of_mem _ h)
  have hown : s.vm.findClass "RayField" = some m.cls := findClass_of_methodNamed B.named
  have hlocks := B.notSynchronized
  have hK := hE.2
  have S0 : CallFix p m c b_RF_clear 2 s [.ref x].toArray BIG "RayField" := ⟨hx, hb, hml, hown, hts⟩
  have hl := lv_entry ([.ref x]) (n := 2) (Nat.le_of_ble_eq_true rfl)
  rw [lg_entry_eq]
  generalize (lg_sl ([.ref x]) ++ List.replicate (2 - (lg_sl ([.ref x])).length) Slot.unset).toArray = ls at hl ⊢
  have hl : lv_has ls 2 [(0, .ref x)] := hl
  obtain ⟨hsz, hP, hD0⟩ := hP
  subst hsz
  have hD := hD0.self (sz := s.heap.size)
  generalize hAe : va_A (x_3 x wa ma wc (nI n) ry cW cM wf mf ++ va_pl L f) s.heap.size = A at hD ⊢
  have hA : ∀ q : Nat, s.heap.size ≤ q → A q := fun q h => by rw [← hAe]; exact Or.inr h
  obtain ⟨H, hH⟩ : ∃ H : Heap, H = s.heap := ⟨_, rfl⟩
  refine rf_heap hH ?_
  have hS : va_S A s.heap H [] := by rw [hH]; exact va_S.rf
  have hP : va_P D vwCl (x_3 x wa ma wc (nI n) ry cW cM wf mf ++ va_pl L f) H := by rw [hH]; exact hP
  obtain ⟨hw, hmp, hry, hn64, hn0, hM, hgo⟩ := hc
  refine lv_iconst (v := 0) hx hb d_RF_clear_0 (by decide) ?_
  refine rf_topi nI_0.symm ?_
  refine lv_istore_n (lv' := [(1, .int (nI 0)), (0, .ref x)]) hx hb d_RF_clear_1 rfl hl (by decide) rfl (fun ls hl => ?_)
  refine rf_loop 2 64 (fun i ls H locs k1 k2 => ∃ wf1 : Nat → Option Nat, lv_has ls 2 [(1, .int (nI i)), (0, .ref x)] ∧ va_P D vwCl (x_3 x wa ma wc (nI n) ry cW cM wf1 mf ++ va_pl L f) H ∧ va_D A (x_3 x wa ma wc (nI n) ry cW cM wf1 mf ++ va_pl L f) ∧ va_S A s.heap H locs ∧ (∀ j, j < i → wf1 j = none) ∧ k1 = 0 ∧ k2 = 0) (fun ls H locs k1 k2 hI => ?_) (fun i ls H locs k1 k2 hi hI hk => ?_) 0 (Nat.zero_le _) ⟨wf, lv_sub hl [0, 1] rfl, hP, hD, hS, fun j hj => absurd hj (Nat.not_lt_zero _), rfl, rfl⟩
  · obtain ⟨wf1, hl, hP, hD, hS, hJ, hk1, hk2⟩ := hI
    subst k1
    subst k2
    have hw2 := rf_walls.none' (L := L) (f := f) hJ
    refine lv_iload_n hx hb d_RF_clear_2 rfl (lv_at hl 0 rfl) ?_
    refine lv_aload_n hx hb d_RF_clear_3 rfl (lv_at hl 1 rfl) ?_
    refine va_get (D := D) (ci := 3) (v := .ref wa) (C := "RayField") (T := F_RF) (N := 5) hx hb hts in_RF hown hK hP 0 rfl rfl 0 (by decide) (hts _ w_19) (fun _ h9 => h9) rfl d_RF_clear_4 ?_
    refine va_alen hx hb hK hP 1 0 rfl rfl (v := nI 64) rfl d_RF_clear_7 ?_
    refine lv_icmp_ge (tgt := 24) hx hb d_RF_clear_8 (by decide) (fun c_1 => ?_) (fun c_1 => absurd (nI_le (Nat.le_refl _) (by decide)) c_1)
    refine lv_aload_n hx hb d_RF_clear_24 rfl (lv_at hl 1 rfl) ?_
    refine lv_iconst (v := 0) hx hb d_RF_clear_25 (by decide) ?_
    refine va_put (D := D) (ci := 3) (v := .int 0) (ty := .int) (C := "RayField") (T := F_RF) (N := 5) hx hb hts in_RF t_RF tok_RF nn_RF hown hK hP hD hS 0 rfl rfl 1 (by decide) (hts _ w_20) (fun _ h9 => h9) rfl (by decide +kernel) rfl rfl (Nat.le_of_ble_eq_true rfl) d_RF_clear_26 (fun H locs hP hD hS => ?_)
    have hP : va_P D vwCl (x_3 x wa ma 0 (nI n) ry cW cM wf1 mf ++ va_pl L f) H := hP
    have hD : va_D A (x_3 x wa ma 0 (nI n) ry cW cM wf1 mf ++ va_pl L f) := hD
    refine lv_aload_n hx hb d_RF_clear_29 rfl (lv_at hl 1 rfl) ?_
    have hFc := rf_freeW hD hS hA
    refine va_callv (rf_runV (As := []) (rest := []) S0 ml_RF_44 (c_RF_meetAgain l D x wa ma 0 (nI n) ry cW cM wf1 mf L f (fun _ => none) ra hw2 hmp hry H.size) hE (va_recv hK hP (ci := 3) (q0 := 0) rfl rfl) ⟨rfl, hP, hD.weaken (fun _ _ _ _ => trivial)⟩ ⟨rfl, rfl, Nat.le_of_ble_eq_true rfl, Nat.le_of_ble_eq_true rfl⟩ rfl hl.1 rfl (Nat.le_of_ble_eq_true rfl) d_RF_clear_30 ⟨Nat.le_of_ble_eq_true rfl, Nat.le_of_ble_eq_true rfl⟩) hS (fun q _ h => hFc q h) hFc (fun u t H1 locs ht hvm hu hB hz1 hk1 hS => ?_)
    obtain ⟨hP, hD1⟩ := hB
    rw [ht] at hP
    have hD := hD1.weaken (fun k q _ h => hFc q.1 h)
    generalize H1 = H at hP hS ⊢
    obtain ⟨L9, f9, mf9, n9, g9⟩ := u
    have hcf := rf_CF.mk9 hw2 hry hu
    dsimp only at hcf hP hD
    have hP : va_P D vwCl (x_3 x wa ma 0 (nI n9) ry cW cM wf1 mf9 ++ va_pl L9 f9) H := hP
    have hD : va_D A (x_3 x wa ma 0 (nI n9) ry cW cM wf1 mf9 ++ va_pl L9 f9) := hD
    refine W.widen (k := 64) (n := 320) (by omega) (by omega) ?_
    exact W.vret hx hb hr (fun t ht hW => ⟨⟨(0, ry, ra, wf1, (fun _ => none), L9, f9, mf9, n9, g9), rfl, ⟨⟨rfl, rfl, rfl, rfl⟩, hcf⟩, by rw [ht]; exact hP, hD⟩, hS.F ht⟩) hS.2.2 d_RF_clear_33
  · obtain ⟨wf1, hl, hP, hD, hS, hJ, hk1, hk2⟩ := hI
    subst k1
    subst k2
    refine lv_iload_n hx hb d_RF_clear_2 rfl (lv_at hl 0 rfl) ?_
    refine lv_aload_n hx hb d_RF_clear_3 rfl (lv_at hl 1 rfl) ?_
    refine va_get (D := D) (ci := 3) (v := .ref wa) (C := "RayField") (T := F_RF) (N := 5) hx hb hts in_RF hown hK hP 0 rfl rfl 0 (by decide) (hts _ w_19) (fun _ h9 => h9) rfl d_RF_clear_4 ?_
    refine va_alen hx hb hK hP 1 0 rfl rfl (v := nI 64) rfl d_RF_clear_7 ?_
    refine lv_icmp_ge (tgt := 24) hx hb d_RF_clear_8 (by decide) (fun c_2 => absurd c_2 (nI_ge hi (by decide))) (fun c_2 => ?_)
    refine lv_aload_n hx hb d_RF_clear_11 rfl (lv_at hl 1 rfl) ?_
    refine va_get (D := D) (ci := 3) (v := .ref wa) (C := "RayField") (T := F_RF) (N := 5) hx hb hts in_RF hown hK hP 0 rfl rfl 0 (by decide) (hts _ w_19) (fun _ h9 => h9) rfl d_RF_clear_12 ?_
    refine lv_iload_n hx hb d_RF_clear_15 rfl (lv_at hl 0 rfl) ?_
    refine lv_null hx hb d_RF_clear_16 ?_
    refine rf_astqN (C := "RayField$Wall") hx hb hK hP hD hS 1 0 rfl rfl hi (by decide) d_RF_clear_17 (fun H locs hP hD hS => ?_)
    have hP : va_P D vwCl (x_3 x wa ma wc (nI n) ry cW cM (va_up wf1 i none) mf ++ va_pl L f) H := hP
    have hD : va_D A (x_3 x wa ma wc (nI n) ry cW cM (va_up wf1 i none) mf ++ va_pl L f) := hD
    refine lv_iinc (v := (nI (i + 1))) (lv' := [(1, .int (nI (i + 1))), (0, .ref x)]) hx hb d_RF_clear_18 hl (k := 0) rfl (nI_1 i) (by decide) rfl (fun ls hl => ?_)
    refine lv_goto (tgt := 2) hx hb d_RF_clear_21 (by decide) ?_
    exact hk _ _ _ _ _ ⟨va_up wf1 i none, lv_sub hl [0, 1] rfl, hP, hD, hS, fun j hj => by by_cases c : j = i <;> first | (subst c; exact va_up_self _ _ _) | (rw [va_up_ne wf1 _ c]; exact hJ j (by omega)), rfl, rfl⟩
