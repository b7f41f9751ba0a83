set_option maxHeartbeats 4000000 in
set_option maxRecDepth 100000 in
theorem c_RF_within (l : Launch) (D : va_G) (x wa ma : Nat) (wc mc : Int32) (ry : Option Nat) (cW cM : ClassId) (wf mf : Nat → Option Nat) (L : List Nat) (f : Nat → va_E) (wl : Nat → Option Q4) (ra : Q4) (n : Nat) (g : Nat → Nat) (hn : n ≤ 64) (hmc : mc = nI n) (hM : rf_meets L f mf wl ra n g) (nn dd : Int32) : Met l y_RF_within (.code y_RF_within b_RF_within 6 (some (.int)) :: BIG) { frames := 1, cells := 0, slots := 0, locals := 40 } (rf_Pc D (x_t cW cM) [.ref x, .int nn, .int dd] (fun h => va_P D vwCl (x_3 x wa ma wc mc ry cW cM wf mf ++ va_pl L f) h)) (vp_Si (fun r => ((∃ q, ry = some q) ∧ m_btw nn 0 1000000 ∧ m_btw dd 1 1000000 ∧ ∃ c, r = nI c ∧ g_cnt (fun k => ∃ w, wl k = some w ∧ m_abs (m_p w ra) * dd.toInt64 ≤ nn.toInt64 * m_abs (m_q w ra)) g n c) ∨ ((ry = none ∨ ¬ m_btw nn 0 1000000 ∨ ¬ m_btw dd 1 1000000) ∧ r = -1))) 0 0 (fun _ => False) := by
  refine Met.ofW (cc := b_RF_within) (maxL := 6) (ret := (some (.int))) (by decide) rfl ?_
  intro p e s m args below meth c s₁ B hml hv
  obtain ⟨rfl, hE, hP⟩ := hv
  have hx := B.exec
  have hb := B.bytes
  have hr := B.returns
  have hts : ∀ w ∈ BIG, w.before [.ref x, .int nn, .int dd].toArray s = true := fun w h => atoms_spec (ws := .code y_RF_within b_RF_within 6 (some (.int)) :: BIG) B.pre w (List.mem_cons_of_mem _ h)
  have hown : s.vm.findClass "RayField" = some m.cls := findClass_of_methodNamed B.named
  have hlocks := B.notSynchronized
  have hK := hE.2
  have S0 : CallFix p m c b_RF_within 6 s [.ref x, .int nn, .int dd].toArray BIG "RayField" := ⟨hx, hb, hml, hown, hts⟩
  have hl := lv_entry ([.ref x, .int nn, .int dd]) (n := 6) (Nat.le_of_ble_eq_true rfl)
  rw [lg_entry_eq]
  generalize (lg_sl ([.ref x, .int nn, .int dd]) ++ List.replicate (6 - (lg_sl ([.ref x, .int nn, .int dd])).length) Slot.unset).toArray = ls at hl ⊢
  have hl : lv_has ls 6 [(0, .ref x), (1, .int nn), (2, .int dd)] := hl
  have hP : va_P D vwCl (x_3 x wa ma wc mc ry cW cM wf mf ++ va_pl L f) s.heap := hP
  refine lv_aload_n hx hb d_RF_within_0 rfl (lv_at hl 0 rfl) ?_
  refine va_get (D := D) (ci := 3) (v := va_rf ry) (C := "RayField") (T := F_RF) (N := 5) hx hb hts in_RF hown hK hP 0 rfl rfl 2 (by decide) (hts _ w_21) (fun _ h9 => h9) rfl d_RF_within_1 ?_
  refine rf_topq (fun e_1 => ?_) (fun q_2 e_1 => ?_)
  · refine lv_ifnullN (tgt := 27) hx hb d_RF_within_4 (by decide) ?_
    refine lv_iconst (v := -1) hx hb d_RF_within_27 (by decide) ?_
    exact W.iret (v := (-1)) hx hb hr (fun t ht hW => ⟨_, rfl, (Or.inr ⟨Or.inl e_1, rfl⟩), ht⟩) (fun _ h => absurd h List.not_mem_nil) d_RF_within_28
  · refine lv_ifnull hx hb d_RF_within_4 ?_
    refine lv_iload_n hx hb d_RF_within_7 rfl (lv_at hl 1 rfl) ?_
    refine lv_iconst (v := 0) hx hb d_RF_within_8 (by decide) ?_
    refine lv_ldc (v := 1000000) hx hb hown (hts _ w_233) d_RF_within_9 ?_
    refine vp_callSi (va_Run.run (rf_runS (As := [.int nn, .int 0, .int 1000000]) (rest := []) S0 ml_RF_76 (c_RF_isBetween l D (x_t cW cM) nn 0 1000000) hE trivial ⟨rfl, rfl, Nat.le_of_ble_eq_true rfl, Nat.le_of_ble_eq_true rfl⟩ rfl hl.1 rfl (Nat.le_of_ble_eq_true rfl) d_RF_within_11 ⟨Nat.zero_le _, Nat.zero_le _⟩)) (fun r_3 h_4 => ?_)
    refine lv_if_eq (tgt := 27) hx hb d_RF_within_14 (by decide) (fun c_5 => ?_) (fun c_5 => ?_)
    · refine lv_iconst (v := -1) hx hb d_RF_within_27 (by decide) ?_
      exact W.iret (v := (-1)) hx hb hr (fun t ht hW => ⟨_, rfl, (Or.inr ⟨Or.inr (Or.inl (h_4.f c_5)), rfl⟩), ht⟩) (fun _ h => absurd h List.not_mem_nil) d_RF_within_28
    · refine lv_iload_n hx hb d_RF_within_17 rfl (lv_at hl 2 rfl) ?_
      refine lv_iconst (v := 1) hx hb d_RF_within_18 (by decide) ?_
      refine lv_ldc (v := 1000000) hx hb hown (hts _ w_233) d_RF_within_19 ?_
      refine vp_callSi (va_Run.run (rf_runS (As := [.int dd, .int 1, .int 1000000]) (rest := []) S0 ml_RF_76 (c_RF_isBetween l D (x_t cW cM) dd 1 1000000) hE trivial ⟨rfl, rfl, Nat.le_of_ble_eq_true rfl, Nat.le_of_ble_eq_true rfl⟩ rfl hl.1 rfl (Nat.le_of_ble_eq_true rfl) d_RF_within_21 ⟨Nat.zero_le _, Nat.zero_le _⟩)) (fun r_6 h_7 => ?_)
      refine lv_if_ne (tgt := 29) hx hb d_RF_within_24 (by decide) (fun c_8 => ?_) (fun c_8 => ?_)
      · refine lv_iconst (v := 0) hx hb d_RF_within_29 (by decide) ?_
        refine rf_topi nI_0.symm ?_
        refine lv_istore_n (lv' := [(3, .int (nI 0)), (0, .ref x), (1, .int nn), (2, .int dd)]) hx hb d_RF_within_30 rfl hl (by decide) rfl (fun ls hl => ?_)
        refine lv_iconst (v := 0) hx hb d_RF_within_31 (by decide) ?_
        refine rf_topi nI_0.symm ?_
        refine lv_istore (lv' := [(4, .int (nI 0)), (3, .int (nI 0)), (0, .ref x), (1, .int nn), (2, .int dd)]) hx hb d_RF_within_32 hl (by decide) rfl (fun ls hl => ?_)
        refine rf_loopP 34 n (fun i ls => ∃ cn : Nat, lv_has ls 6 [(3, .int (nI cn)), (4, .int (nI i)), (0, .ref x), (1, .int nn), (2, .int dd)] ∧ g_cnt (fun k => ∃ w, wl k = some w ∧ m_abs (m_p w ra) * dd.toInt64 ≤ nn.toInt64 * m_abs (m_q w ra)) g i cn) (fun ls hI => ?_) (fun i ls hi hI hk => ?_) 0 (Nat.zero_le _) ⟨0, lv_sub hl [1, 0, 2, 3, 4] rfl, rfl⟩
        · obtain ⟨cn, hl, hJ⟩ := hI
          refine lv_iload hx hb d_RF_within_34 (lv_at hl 1 rfl) ?_
          refine lv_aload_n hx hb d_RF_within_36 rfl (lv_at hl 2 rfl) ?_
          refine va_get (D := D) (ci := 3) (v := .int mc) (C := "RayField") (T := F_RF) (N := 5) hx hb hts in_RF hown hK hP 0 rfl rfl 4 (by decide) (hts _ w_23) (fun _ h9 => h9) rfl d_RF_within_37 ?_
          refine rf_topi hmc ?_
          refine lv_icmp_ge (tgt := 77) hx hb d_RF_within_40 (by decide) (fun c_9 => ?_) (fun c_9 => absurd (nI_le (Nat.le_refl _) (by omega)) c_9)
          refine lv_iload_n hx hb d_RF_within_77 rfl (lv_at hl 0 rfl) ?_
          exact W.iret (v := nI cn) hx hb hr (fun t ht hW => ⟨_, rfl, (Or.inl ⟨⟨_, e_1⟩, (h_4.t c_5), (h_7.t c_8), cn, rfl, hJ⟩), ht⟩) (fun _ h => absurd h List.not_mem_nil) d_RF_within_78
        · obtain ⟨cn, hl, hJ⟩ := hI
          refine lv_iload hx hb d_RF_within_34 (lv_at hl 1 rfl) ?_
          refine lv_aload_n hx hb d_RF_within_36 rfl (lv_at hl 2 rfl) ?_
          refine va_get (D := D) (ci := 3) (v := .int mc) (C := "RayField") (T := F_RF) (N := 5) hx hb hts in_RF hown hK hP 0 rfl rfl 4 (by decide) (hts _ w_23) (fun _ h9 => h9) rfl d_RF_within_37 ?_
          refine rf_topi hmc ?_
          refine lv_icmp_ge (tgt := 77) hx hb d_RF_within_40 (by decide) (fun c_10 => absurd c_10 (nI_ge hi (by omega))) (fun c_10 => ?_)
          refine lv_aload_n hx hb d_RF_within_43 rfl (lv_at hl 2 rfl) ?_
          refine lv_iload hx hb d_RF_within_44 (lv_at hl 1 rfl) ?_
          refine va_csq (va_Run.run (rf_runV (As := [.int (nI i)]) (rest := []) S0 ml_RF_64 (c_RF_meetingAt l D x wa ma wc mc ry cW cM wf mf L f n hn hmc (nI i)) hE (va_recv hK hP (ci := 3) (q0 := 0) rfl rfl) hP ⟨rfl, rfl, Nat.le_of_ble_eq_true rfl, Nat.le_of_ble_eq_true rfl⟩ rfl hl.1 rfl (Nat.le_of_ble_eq_true rfl) d_RF_within_46 ⟨Nat.zero_le _, Nat.zero_le _⟩)) (fun r_11 h_12 => ?_)
          refine rf_topq (fun e_13 => ?_) (fun q_14 e_13 => ?_)
          · exact absurd rfl (rf_mt_none hM h_12 e_13 i hi)
          · obtain ⟨k, w, hk9, ek, b1, b2, b3⟩ := rf_mt_some hM h_12 e_13
            have ei : i = k := nI_inj (by omega) (by omega) ek
            subst ei
            have hPm := rf_pl hP b1 b3
            refine lv_astore (lv' := [(5, .ref q_14), (3, .int (nI cn)), (4, .int (nI i)), (0, .ref x), (1, .int nn), (2, .int dd)]) hx hb d_RF_within_49 hl (by decide) rfl (fun ls hl => ?_)
            refine lv_aload hx hb d_RF_within_51 (lv_at hl 0 rfl) ?_
            refine lv_ifnull hx hb d_RF_within_53 ?_
            refine lv_aload hx hb d_RF_within_56 (lv_at hl 0 rfl) ?_
            refine lv_iload_n hx hb d_RF_within_58 rfl (lv_at hl 4 rfl) ?_
            refine lv_i2l hx hb d_RF_within_59 rfl ?_
            refine lv_iload_n hx hb d_RF_within_60 rfl (lv_at hl 5 rfl) ?_
            refine lv_i2l hx hb d_RF_within_61 rfl ?_
            refine vp_callSi (va_Run.run (rf_runV (As := [.long nn.toInt64, .long dd.toInt64]) (rest := []) S0 ml_RF_94 (c_Meeting_isAtMost l D (x_t cW cM) q_14 (nI (g i)) (m_fr w ra) (m_abs (m_p w ra)) (m_abs (m_a w ra)) (m_abs (m_q w ra)) nn.toInt64 dd.toInt64) hE (va_recv hK hPm (ci := 2) (q0 := 0) rfl rfl) hPm ⟨rfl, rfl, Nat.le_of_ble_eq_true rfl, Nat.le_of_ble_eq_true rfl⟩ rfl hl.1 rfl (Nat.le_of_ble_eq_true rfl) d_RF_within_62 ⟨Nat.zero_le _, Nat.zero_le _⟩)) (fun r_15 h_16 => ?_)
            refine lv_if_eq (tgt := 71) hx hb d_RF_within_65 (by decide) (fun c_17 => ?_) (fun c_17 => ?_)
            · refine lv_iinc (v := (nI (i + 1))) (lv' := [(4, .int (nI (i + 1))), (5, .ref q_14), (3, .int (nI cn)), (0, .ref x), (1, .int nn), (2, .int dd)]) hx hb d_RF_within_71 hl (k := 2) rfl (nI_1 i) (by decide) rfl (fun ls hl => ?_)
              refine lv_goto (tgt := 34) hx hb d_RF_within_74 (by decide) ?_
              exact hk _ ⟨cn, lv_sub hl [2, 0, 3, 4, 5] rfl, Or.inr ⟨fun ⟨w0, q1, q2⟩ => by rw [b2] at q1; cases q1; exact (h_16.f c_17) q2, hJ⟩⟩
            · refine lv_iinc (v := (nI (cn + 1))) (lv' := [(3, .int (nI (cn + 1))), (5, .ref q_14), (4, .int (nI i)), (0, .ref x), (1, .int nn), (2, .int dd)]) hx hb d_RF_within_68 hl (k := 1) rfl (nI_1 cn) (by decide) rfl (fun ls hl => ?_)
              refine lv_iinc (v := (nI (i + 1))) (lv' := [(4, .int (nI (i + 1))), (3, .int (nI (cn + 1))), (5, .ref q_14), (0, .ref x), (1, .int nn), (2, .int dd)]) hx hb d_RF_within_71 hl (k := 2) rfl (nI_1 i) (by decide) rfl (fun ls hl => ?_)
              refine lv_goto (tgt := 34) hx hb d_RF_within_74 (by decide) ?_
              exact hk _ ⟨(cn + 1), lv_sub hl [1, 0, 3, 4, 5] rfl, Or.inl ⟨⟨w, b2, (h_16.t c_17)⟩, cn, hJ, rfl⟩⟩
      · refine lv_iconst (v := -1) hx hb d_RF_within_27 (by decide) ?_
        exact W.iret (v := (-1)) hx hb hr (fun t ht hW => ⟨_, rfl, (Or.inr ⟨Or.inr (Or.inr (h_7.f c_8)), rfl⟩), ht⟩) (fun _ h => absurd h List.not_mem_nil) d_RF_within_28
set_option maxHeartbeats 4000000 in
set_option maxRecDepth 100000 in
theorem c_RF_init (l : Launch) (D : va_G) (x : Nat) (sz : Nat) : Met l y_RF_init (.code y_RF_init b_RF_init 1 none :: BIG) { frames := 1, cells := 2, slots := 128, locals := 40 } (rf_Pc D [] [.ref x] (fun h => h.size = sz ∧ va_P D vwCl [(x, .inr (3, [.null, .int 0, .null, .null, .int 0]))] h ∧ va_D (fun _ => True) [(x, .inr (3, [.null, .int 0, .null, .null, .int 0]))])) (va_Qv (S := Nat × Nat × ClassId × ClassId) (fun _ => True) (fun u t => va_P D vwCl (x_3 x u.1 u.2.1 0 (nI 0) none u.2.2.1 u.2.2.2 (fun _ => none) (fun _ => none) ++ va_pl [] (fun _ => e_W (0, 0, 0, 0))) t.heap ∧ va_D (va_A [(x, .inr (3, [.null, .int 0, .null, .null, .int 0]))] sz) (x_3 x u.1 u.2.1 0 (nI 0) none u.2.2.1 u.2.2.2 (fun _ => none) (fun _ => none) ++ va_pl [] (fun _ => e_W (0, 0, 0, 0))) ∧ va_K D vwCl (x_t u.2.2.1 u.2.2.2) t) (va_A [(x, .inr (3, [.null, .int 0, .null, .null, .int 0]))] sz)) 2 128 (va_A [(x, .inr (3, [.null, .int 0, .null, .null, .int 0]))] sz) := by
  refine Met.ofW (cc := b_RF_init) (maxL := 1) (ret := none) (by decide) rfl ?_
  intro p e s m args below meth c s₁ B hml hv
  obtain ⟨rfl, hE, hP⟩ := hv
  have hx := B.exec
  have hb := B.bytes
  have hr := B.returns
  have hts : ∀ w ∈ BIG, w.before [.ref x].toArray s = true := fun w h => atoms_spec (ws := .code y_RF_init b_RF_init 1 none :: BIG) B.pre w (List.mem_cons_of_mem _ h)
  have hown : s.vm.findClass "RayField" = some m.cls := findClass_of_methodNamed B.named
  have hlocks := B.notSynchronized
  have hK := hE.2
  have S0 : CallFix p m c b_RF_init 1 s [.ref x].toArray BIG "RayField" := ⟨hx, hb, hml, hown, hts⟩
  have hl := lv_entry ([.ref x]) (n := 1) (Nat.le_of_ble_eq_true rfl)
  rw [lg_entry_eq]
  generalize (lg_sl ([.ref x]) ++ List.replicate (1 - (lg_sl ([.ref x])).length) Slot.unset).toArray = ls at hl ⊢
  have hl : lv_has ls 1 [(0, .ref x)] := hl
  obtain ⟨hsz, hP, hD0⟩ := hP
  have hin : meth.name = "<init>" := (name_of_methodNamed B.named B.method).1
  subst hsz
  have hD := hD0.self (sz := s.heap.size)
  generalize hAe : va_A [(x, .inr (3, [.null, .int 0, .null, .null, .int 0]))] s.heap.size = A at hD ⊢
  have hA : ∀ q : Nat, s.heap.size ≤ q → A q := fun q h => by rw [← hAe]; exact Or.inr h
  obtain ⟨H, hH⟩ : ∃ H : Heap, H = s.heap := ⟨_, rfl⟩
  refine rf_heap hH ?_
  have hS : va_S A s.heap H [] := by rw [hH]; exact va_S.rf
  have hP : va_P D vwCl [(x, .inr (3, [.null, .int 0, .null, .null, .int 0]))] H := by rw [hH]; exact hP
  refine lv_aload_n hx hb d_RF_init_0 rfl (lv_at hl 0 rfl) ?_
  refine W.objInit hx hb hown (hts _ w_12) (hts _ w_13) (hts _ w_14) rfl (by rw [hml]; exact hl.1) rfl d_RF_init_1 (Nat.le_of_ble_eq_true rfl) (Nat.le_of_ble_eq_true rfl) ?_
  refine W.eq (g2 := F0 m 4 ls []) rfl ?_
  refine lv_aload_n hx hb d_RF_init_4 rfl (lv_at hl 0 rfl) ?_
  refine lv_bipush (v := 64) hx hb d_RF_init_5 (by decide) ?_
  refine va_newq (C := "RayField$Wall") (N' := 64) hx hb hown (hts _ w_15) hE.1.2.1 hK hP hD hS hA (by decide) rfl (by decide) (show 1 ≤ 2 by decide) (show 64 ≤ 128 by decide) d_RF_init_7 (fun t0 c0 H hK hP hD hS => ?_)
  refine W.widen (k := 1) (n := 64) (by omega) (by omega) ?_
  have hP : va_P D vwCl [(x, .inr (3, [.null, .int 0, .null, .null, .int 0])), (t0, e_Q c0 (fun _ => none))] H := hP
  have hD : va_D A [(x, .inr (3, [.null, .int 0, .null, .null, .int 0])), (t0, e_Q c0 (fun _ => none))] := hD
  have hK : va_K D vwCl [(c0, .object "RayField$Wall")] s := hK
  refine va_putF (D := D) (ci := 3) (v := .ref t0) (ty := (.array (.object "RayField$Wall"))) (C := "RayField") (T := F_RF) (N := 5) hx hb hts in_RF t_RF tok_RF nn_RF hown hK hP hD hS 0 rfl rfl 0 (by decide) (hts _ w_19) (fun _ h9 => h9) rfl hin rfl (by decide +kernel) rfl rfl (Nat.le_of_ble_eq_true rfl) d_RF_init_10 (fun H locs hP hD hS => ?_)
  have hP : va_P D vwCl [(x, .inr (3, [.ref t0, .int 0, .null, .null, .int 0])), (t0, e_Q c0 (fun _ => none))] H := hP
  have hD : va_D A [(x, .inr (3, [.ref t0, .int 0, .null, .null, .int 0])), (t0, e_Q c0 (fun _ => none))] := hD
  refine lv_aload_n hx hb d_RF_init_13 rfl (lv_at hl 0 rfl) ?_
  refine lv_bipush (v := 64) hx hb d_RF_init_14 (by decide) ?_
  refine va_newq (C := "RayField$Meeting") (N' := 64) hx hb hown (hts _ w_17) hE.1.2.2 hK hP hD hS hA (by decide) rfl (by decide) (show 2 ≤ 2 by decide) (show 128 ≤ 128 by decide) d_RF_init_16 (fun t1 c1 H hK hP hD hS => ?_)
  refine W.widen (k := 2) (n := 128) (by omega) (by omega) ?_
  have hP : va_P D vwCl [(x, .inr (3, [.ref t0, .int 0, .null, .null, .int 0])), (t0, e_Q c0 (fun _ => none)), (t1, e_Q c1 (fun _ => none))] H := hP
  have hD : va_D A [(x, .inr (3, [.ref t0, .int 0, .null, .null, .int 0])), (t0, e_Q c0 (fun _ => none)), (t1, e_Q c1 (fun _ => none))] := hD
  have hK : va_K D vwCl [(c0, .object "RayField$Wall"), (c1, .object "RayField$Meeting")] s := hK
  refine va_putF (D := D) (ci := 3) (v := .ref t1) (ty := (.array (.object "RayField$Meeting"))) (C := "RayField") (T := F_RF) (N := 5) hx hb hts in_RF t_RF tok_RF nn_RF hown hK hP hD hS 0 rfl rfl 3 (by decide) (hts _ w_22) (fun _ h9 => h9) rfl hin rfl (by decide +kernel) rfl rfl (Nat.le_of_ble_eq_true rfl) d_RF_init_19 (fun H locs hP hD hS => ?_)
  have hP : va_P D vwCl [(x, .inr (3, [.ref t0, .int 0, .null, .ref t1, .int 0])), (t0, e_Q c0 (fun _ => none)), (t1, e_Q c1 (fun _ => none))] H := hP
  have hD : va_D A [(x, .inr (3, [.ref t0, .int 0, .null, .ref t1, .int 0])), (t0, e_Q c0 (fun _ => none)), (t1, e_Q c1 (fun _ => none))] := hD
  exact W.vret hx hb hr (fun t ht hW => ⟨⟨(t0, t1, c0, c1), rfl, trivial, by rw [ht]; exact hP, hD, va_K.moved hW.alike hK⟩, hS.F ht⟩) hS.2.2 d_RF_init_22
set_option maxHeartbeats 4000000 in
set_option maxRecDepth 100000 in
theorem c_Md_init (l : Launch) (D : va_G) (y : Nat) (sz : Nat) : Met l y_Md_init (.code y_Md_init b_Md_init 1 none :: BIG) { frames := 1, cells := 6, slots := 384, locals := 40 } (rf_Pc D [] [.ref y] (fun h => h.size = sz ∧ va_P D vwCl [(y, .inr (4, [.int 0, .null, .null, .null, .null, .null, .int 0, .int 0, .int 0, .int 0, .int 0, .int 0, .long 0, .long 0, .int 0, .long 0, .long 0, .null]))] h ∧ va_D (fun _ => True) [(y, .inr (4, [.int 0, .null, .null, .null, .null, .null, .int 0, .int 0, .int 0, .int 0, .int 0, .int 0, .long 0, .long 0, .int 0, .long 0, .long 0, .null]))])) (va_Qv (S := Nat × Nat × Nat × Nat × Nat × Nat × ClassId × ClassId × ClassId × ClassId × ClassId × ClassId) (fun _ => True) (fun u t => va_P D vwCl (y_7 y u.1 u.2.1 u.2.2.1 u.2.2.2.1 u.2.2.2.2.1 u.2.2.2.2.2.1 u.2.2.2.2.2.2.1 u.2.2.2.2.2.2.2.1 u.2.2.2.2.2.2.2.2.1 u.2.2.2.2.2.2.2.2.2.1 u.2.2.2.2.2.2.2.2.2.2.1 u.2.2.2.2.2.2.2.2.2.2.2 0 0 0 0 0 0 0 0 0 0 0 (fun _ => 0) (fun _ => 0) (fun _ => 0) (fun _ => 0) (fun _ => 0) (fun _ => 0)) t.heap ∧ va_D (va_A [(y, .inr (4, [.int 0, .null, .null, .null, .null, .null, .int 0, .int 0, .int 0, .int 0, .int 0, .int 0, .long 0, .long 0, .int 0, .long 0, .long 0, .null]))] sz) (y_7 y u.1 u.2.1 u.2.2.1 u.2.2.2.1 u.2.2.2.2.1 u.2.2.2.2.2.1 u.2.2.2.2.2.2.1 u.2.2.2.2.2.2.2.1 u.2.2.2.2.2.2.2.2.1 u.2.2.2.2.2.2.2.2.2.1 u.2.2.2.2.2.2.2.2.2.2.1 u.2.2.2.2.2.2.2.2.2.2.2 0 0 0 0 0 0 0 0 0 0 0 (fun _ => 0) (fun _ => 0) (fun _ => 0) (fun _ => 0) (fun _ => 0) (fun _ => 0)) ∧ va_K D vwCl (y_t u.2.2.2.2.2.2.1 u.2.2.2.2.2.2.2.1 u.2.2.2.2.2.2.2.2.1 u.2.2.2.2.2.2.2.2.2.1 u.2.2.2.2.2.2.2.2.2.2.1 u.2.2.2.2.2.2.2.2.2.2.2) t) (va_A [(y, .inr (4, [.int 0, .null, .null, .null, .null, .null, .int 0, .int 0, .int 0, .int 0, .int 0, .int 0, .long 0, .long 0, .int 0, .long 0, .long 0, .null]))] sz)) 6 384 (va_A [(y, .inr (4, [.int 0, .null, .null, .null, .null, .null, .int 0, .int 0, .int 0, .int 0, .int 0, .int 0, .long 0, .long 0, .int 0, .long 0, .long 0, .null]))] sz) := by
  refine Met.ofW (cc := b_Md_init) (maxL := 1) (ret := none) (by decide) rfl ?_
  intro p e s m args below meth c s₁ B hml hv
  obtain ⟨rfl, hE, hP⟩ := hv
  have hx := B.exec
  have hb := B.bytes
  have hr := B.returns
  have hts : ∀ w ∈ BIG, w.before [.ref y].toArray s = true := fun w h => atoms_spec (ws := .code y_Md_init b_Md_init 1 none :: BIG) B.pre w (List.mem_cons_of_mem _ h)
  have hown : s.vm.findClass "RayFieldModel" = some m.cls := findClass_of_methodNamed B.named
  have hlocks := B.notSynchronized
  have hK := hE.2
  have S0 : CallFix p m c b_Md_init 1 s [.ref y].toArray BIG "RayFieldModel" := ⟨hx, hb, hml, hown, hts⟩
  have hl := lv_entry ([.ref y]) (n := 1) (Nat.le_of_ble_eq_true rfl)
  rw [lg_entry_eq]
  generalize (lg_sl ([.ref y]) ++ List.replicate (1 - (lg_sl ([.ref y])).length) Slot.unset).toArray = ls at hl ⊢
  have hl : lv_has ls 1 [(0, .ref y)] := hl
  obtain ⟨hsz, hP, hD0⟩ := hP
  have hin : meth.name = "<init>" := (name_of_methodNamed B.named B.method).1
  subst hsz
  have hD := hD0.self (sz := s.heap.size)
  generalize hAe : va_A [(y, .inr (4, [.int 0, .null, .null, .null, .null, .null, .int 0, .int 0, .int 0, .int 0, .int 0, .int 0, .long 0, .long 0, .int 0, .long 0, .long 0, .null]))] s.heap.size = A at hD ⊢
  have hA : ∀ q : Nat, s.heap.size ≤ q → A q := fun q h => by rw [← hAe]; exact Or.inr h
  obtain ⟨H, hH⟩ : ∃ H : Heap, H = s.heap := ⟨_, rfl⟩
  refine rf_heap hH ?_
  have hS : va_S A s.heap H [] := by rw [hH]; exact va_S.rf
  have hP : va_P D vwCl [(y, .inr (4, [.int 0, .null, .null, .null, .null, .null, .int 0, .int 0, .int 0, .int 0, .int 0, .int 0, .long 0, .long 0, .int 0, .long 0, .long 0, .null]))] H := by rw [hH]; exact hP
  refine lv_aload_n hx hb d_Md_init_0 rfl (lv_at hl 0 rfl) ?_
  refine W.objInit hx hb hown (hts _ w_279) (hts _ w_13) (hts _ w_14) rfl (by rw [hml]; exact hl.1) rfl d_Md_init_1 (Nat.le_of_ble_eq_true rfl) (Nat.le_of_ble_eq_true rfl) ?_
  refine W.eq (g2 := F0 m 4 ls []) rfl ?_
  refine lv_aload_n hx hb d_Md_init_4 rfl (lv_at hl 0 rfl) ?_
  refine lv_bipush (v := 64) hx hb d_Md_init_5 (by decide) ?_
  refine va_newa (atype := .boolean) (ty := .boolean) (a0 := (64, .inl (fun _ => 0))) (N' := 64) hx hb (hts _ w_335) rfl hK hP hD hS hA (fun _ => rfl) (by decide) rfl (by decide) (show 1 ≤ 6 by decide) (show 64 ≤ 384 by decide) d_Md_init_7 (fun t0 c0 H hK hP hD hS => ?_)
  refine W.widen (k := 1) (n := 64) (by omega) (by omega) ?_
  have hP : va_P D vwCl [(y, .inr (4, [.int 0, .null, .null, .null, .null, .null, .int 0, .int 0, .int 0, .int 0, .int 0, .int 0, .long 0, .long 0, .int 0, .long 0, .long 0, .null])), (t0, .inl (c0, 64, .inl (fun _ => 0)))] H := hP
  have hD : va_D A [(y, .inr (4, [.int 0, .null, .null, .null, .null, .null, .int 0, .int 0, .int 0, .int 0, .int 0, .int 0, .long 0, .long 0, .int 0, .long 0, .long 0, .null])), (t0, .inl (c0, 64, .inl (fun _ => 0)))] := hD
  have hK : va_K D vwCl [(c0, .boolean)] s := hK
  refine va_putF (D := D) (ci := 4) (v := .ref t0) (ty := (.array .boolean)) (C := "RayFieldModel") (T := F_Md) (N := 18) hx hb hts in_Md t_Md tok_Md nn_Md hown hK hP hD hS 0 rfl rfl 1 (by decide) (hts _ w_281) (fun _ h9 => h9) rfl hin rfl (by decide +kernel) rfl rfl (Nat.le_of_ble_eq_true rfl) d_Md_init_9 (fun H locs hP hD hS => ?_)
  have hP : va_P D vwCl [(y, .inr (4, [.int 0, .ref t0, .null, .null, .null, .null, .int 0, .int 0, .int 0, .int 0, .int 0, .int 0, .long 0, .long 0, .int 0, .long 0, .long 0, .null])), (t0, .inl (c0, 64, .inl (fun _ => 0)))] H := hP
  have hD : va_D A [(y, .inr (4, [.int 0, .ref t0, .null, .null, .null, .null, .int 0, .int 0, .int 0, .int 0, .int 0, .int 0, .long 0, .long 0, .int 0, .long 0, .long 0, .null])), (t0, .inl (c0, 64, .inl (fun _ => 0)))] := hD
  refine lv_aload_n hx hb d_Md_init_12 rfl (lv_at hl 0 rfl) ?_
  refine lv_bipush (v := 64) hx hb d_Md_init_13 (by decide) ?_
  refine va_newa (atype := .int) (ty := .int) (a0 := (64, .inl (fun _ => 0))) (N' := 64) hx hb (hts _ w_336) rfl hK hP hD hS hA (fun _ => rfl) (by decide) rfl (by decide) (show 2 ≤ 6 by decide) (show 128 ≤ 384 by decide) d_Md_init_15 (fun t1 c1 H hK hP hD hS => ?_)
  refine W.widen (k := 2) (n := 128) (by omega) (by omega) ?_
  have hP : va_P D vwCl [(y, .inr (4, [.int 0, .ref t0, .null, .null, .null, .null, .int 0, .int 0, .int 0, .int 0, .int 0, .int 0, .long 0, .long 0, .int 0, .long 0, .long 0, .null])), (t0, .inl (c0, 64, .inl (fun _ => 0))), (t1, .inl (c1, 64, .inl (fun _ => 0)))] H := hP
  have hD : va_D A [(y, .inr (4, [.int 0, .ref t0, .null, .null, .null, .null, .int 0, .int 0, .int 0, .int 0, .int 0, .int 0, .long 0, .long 0, .int 0, .long 0, .long 0, .null])), (t0, .inl (c0, 64, .inl (fun _ => 0))), (t1, .inl (c1, 64, .inl (fun _ => 0)))] := hD
  have hK : va_K D vwCl [(c0, .boolean), (c1, .int)] s := hK
  refine va_putF (D := D) (ci := 4) (v := .ref t1) (ty := (.array .int)) (C := "RayFieldModel") (T := F_Md) (N := 18) hx hb hts in_Md t_Md tok_Md nn_Md hown hK hP hD hS 0 rfl rfl 2 (by decide) (hts _ w_282) (fun _ h9 => h9) rfl hin rfl (by decide +kernel) rfl rfl (Nat.le_of_ble_eq_true rfl) d_Md_init_17 (fun H locs hP hD hS => ?_)
  have hP : va_P D vwCl [(y, .inr (4, [.int 0, .ref t0, .ref t1, .null, .null, .null, .int 0, .int 0, .int 0, .int 0, .int 0, .int 0, .long 0, .long 0, .int 0, .long 0, .long 0, .null])), (t0, .inl (c0, 64, .inl (fun _ => 0))), (t1, .inl (c1, 64, .inl (fun _ => 0)))] H := hP
  have hD : va_D A [(y, .inr (4, [.int 0, .ref t0, .ref t1, .null, .null, .null, .int 0, .int 0, .int 0, .int 0, .int 0, .int 0, .long 0, .long 0, .int 0, .long 0, .long 0, .null])), (t0, .inl (c0, 64, .inl (fun _ => 0))), (t1, .inl (c1, 64, .inl (fun _ => 0)))] := hD
  refine lv_aload_n hx hb d_Md_init_20 rfl (lv_at hl 0 rfl) ?_
  refine lv_bipush (v := 64) hx hb d_Md_init_21 (by decide) ?_
  refine va_newa (atype := .int) (ty := .int) (a0 := (64, .inl (fun _ => 0))) (N' := 64) hx hb (hts _ w_336) rfl hK hP hD hS hA (fun _ => rfl) (by decide) rfl (by decide) (show 3 ≤ 6 by decide) (show 192 ≤ 384 by decide) d_Md_init_23 (fun t2 c2 H hK hP hD hS => ?_)
  refine W.widen (k := 3) (n := 192) (by omega) (by omega) ?_
  have hP : va_P D vwCl [(y, .inr (4, [.int 0, .ref t0, .ref t1, .null, .null, .null, .int 0, .int 0, .int 0, .int 0, .int 0, .int 0, .long 0, .long 0, .int 0, .long 0, .long 0, .null])), (t0, .inl (c0, 64, .inl (fun _ => 0))), (t1, .inl (c1, 64, .inl (fun _ => 0))), (t2, .inl (c2, 64, .inl (fun _ => 0)))] H := hP
  have hD : va_D A [(y, .inr (4, [.int 0, .ref t0, .ref t1, .null, .null, .null, .int 0, .int 0, .int 0, .int 0, .int 0, .int 0, .long 0, .long 0, .int 0, .long 0, .long 0, .null])), (t0, .inl (c0, 64, .inl (fun _ => 0))), (t1, .inl (c1, 64, .inl (fun _ => 0))), (t2, .inl (c2, 64, .inl (fun _ => 0)))] := hD
  have hK : va_K D vwCl [(c0, .boolean), (c1, .int), (c2, .int)] s := hK
  refine va_putF (D := D) (ci := 4) (v := .ref t2) (ty := (.array .int)) (C := "RayFieldModel") (T := F_Md) (N := 18) hx hb hts in_Md t_Md tok_Md nn_Md hown hK hP hD hS 0 rfl rfl 3 (by decide) (hts _ w_283) (fun _ h9 => h9) rfl hin rfl (by decide +kernel) rfl rfl (Nat.le_of_ble_eq_true rfl) d_Md_init_25 (fun H locs hP hD hS => ?_)
  have hP : va_P D vwCl [(y, .inr (4, [.int 0, .ref t0, .ref t1, .ref t2, .null, .null, .int 0, .int 0, .int 0, .int 0, .int 0, .int 0, .long 0, .long 0, .int 0, .long 0, .long 0, .null])), (t0, .inl (c0, 64, .inl (fun _ => 0))), (t1, .inl (c1, 64, .inl (fun _ => 0))), (t2, .inl (c2, 64, .inl (fun _ => 0)))] H := hP
  have hD : va_D A [(y, .inr (4, [.int 0, .ref t0, .ref t1, .ref t2, .null, .null, .int 0, .int 0, .int 0, .int 0, .int 0, .int 0, .long 0, .long 0, .int 0, .long 0, .long 0, .null])), (t0, .inl (c0, 64, .inl (fun _ => 0))), (t1, .inl (c1, 64, .inl (fun _ => 0))), (t2, .inl (c2, 64, .inl (fun _ => 0)))] := hD
  refine lv_aload_n hx hb d_Md_init_28 rfl (lv_at hl 0 rfl) ?_
  refine lv_bipush (v := 64) hx hb d_Md_init_29 (by decide) ?_
  refine va_newa (atype := .int) (ty := .int) (a0 := (64, .inl (fun _ => 0))) (N' := 64) hx hb (hts _ w_336) rfl hK hP hD hS hA (fun _ => rfl) (by decide) rfl (by decide) (show 4 ≤ 6 by decide) (show 256 ≤ 384 by decide) d_Md_init_31 (fun t3 c3 H hK hP hD hS => ?_)
  refine W.widen (k := 4) (n := 256) (by omega) (by omega) ?_
  have hP : va_P D vwCl [(y, .inr (4, [.int 0, .ref t0, .ref t1, .ref t2, .null, .null, .int 0, .int 0, .int 0, .int 0, .int 0, .int 0, .long 0, .long 0, .int 0, .long 0, .long 0, .null])), (t0, .inl (c0, 64, .inl (fun _ => 0))), (t1, .inl (c1, 64, .inl (fun _ => 0))), (t2, .inl (c2, 64, .inl (fun _ => 0))), (t3, .inl (c3, 64, .inl (fun _ => 0)))] H := hP
  have hD : va_D A [(y, .inr (4, [.int 0, .ref t0, .ref t1, .ref t2, .null, .null, .int 0, .int 0, .int 0, .int 0, .int 0, .int 0, .long 0, .long 0, .int 0, .long 0, .long 0, .null])), (t0, .inl (c0, 64, .inl (fun _ => 0))), (t1, .inl (c1, 64, .inl (fun _ => 0))), (t2, .inl (c2, 64, .inl (fun _ => 0))), (t3, .inl (c3, 64, .inl (fun _ => 0)))] := hD
  have hK : va_K D vwCl [(c0, .boolean), (c1, .int), (c2, .int), (c3, .int)] s := hK
  refine va_putF (D := D) (ci := 4) (v := .ref t3) (ty := (.array .int)) (C := "RayFieldModel") (T := F_Md) (N := 18) hx hb hts in_Md t_Md tok_Md nn_Md hown hK hP hD hS 0 rfl rfl 4 (by decide) (hts _ w_284) (fun _ h9 => h9) rfl hin rfl (by decide +kernel) rfl rfl (Nat.le_of_ble_eq_true rfl) d_Md_init_33 (fun H locs hP hD hS => ?_)
  have hP : va_P D vwCl [(y, .inr (4, [.int 0, .ref t0, .ref t1, .ref t2, .ref t3, .null, .int 0, .int 0, .int 0, .int 0, .int 0, .int 0, .long 0, .long 0, .int 0, .long 0, .long 0, .null])), (t0, .inl (c0, 64, .inl (fun _ => 0))), (t1, .inl (c1, 64, .inl (fun _ => 0))), (t2, .inl (c2, 64, .inl (fun _ => 0))), (t3, .inl (c3, 64, .inl (fun _ => 0)))] H := hP
  have hD : va_D A [(y, .inr (4, [.int 0, .ref t0, .ref t1, .ref t2, .ref t3, .null, .int 0, .int 0, .int 0, .int 0, .int 0, .int 0, .long 0, .long 0, .int 0, .long 0, .long 0, .null])), (t0, .inl (c0, 64, .inl (fun _ => 0))), (t1, .inl (c1, 64, .inl (fun _ => 0))), (t2, .inl (c2, 64, .inl (fun _ => 0))), (t3, .inl (c3, 64, .inl (fun _ => 0)))] := hD
  refine lv_aload_n hx hb d_Md_init_36 rfl (lv_at hl 0 rfl) ?_
  refine lv_bipush (v := 64) hx hb d_Md_init_37 (by decide) ?_
  refine va_newa (atype := .int) (ty := .int) (a0 := (64, .inl (fun _ => 0))) (N' := 64) hx hb (hts _ w_336) rfl hK hP hD hS hA (fun _ => rfl) (by decide) rfl (by decide) (show 5 ≤ 6 by decide) (show 320 ≤ 384 by decide) d_Md_init_39 (fun t4 c4 H hK hP hD hS => ?_)
  refine W.widen (k := 5) (n := 320) (by omega) (by omega) ?_
  have hP : va_P D vwCl [(y, .inr (4, [.int 0, .ref t0, .ref t1, .ref t2, .ref t3, .null, .int 0, .int 0, .int 0, .int 0, .int 0, .int 0, .long 0, .long 0, .int 0, .long 0, .long 0, .null])), (t0, .inl (c0, 64, .inl (fun _ => 0))), (t1, .inl (c1, 64, .inl (fun _ => 0))), (t2, .inl (c2, 64, .inl (fun _ => 0))), (t3, .inl (c3, 64, .inl (fun _ => 0))), (t4, .inl (c4, 64, .inl (fun _ => 0)))] H := hP
  have hD : va_D A [(y, .inr (4, [.int 0, .ref t0, .ref t1, .ref t2, .ref t3, .null, .int 0, .int 0, .int 0, .int 0, .int 0, .int 0, .long 0, .long 0, .int 0, .long 0, .long 0, .null])), (t0, .inl (c0, 64, .inl (fun _ => 0))), (t1, .inl (c1, 64, .inl (fun _ => 0))), (t2, .inl (c2, 64, .inl (fun _ => 0))), (t3, .inl (c3, 64, .inl (fun _ => 0))), (t4, .inl (c4, 64, .inl (fun _ => 0)))] := hD
  have hK : va_K D vwCl [(c0, .boolean), (c1, .int), (c2, .int), (c3, .int), (c4, .int)] s := hK
  refine va_putF (D := D) (ci := 4) (v := .ref t4) (ty := (.array .int)) (C := "RayFieldModel") (T := F_Md) (N := 18) hx hb hts in_Md t_Md tok_Md nn_Md hown hK hP hD hS 0 rfl rfl 5 (by decide) (hts _ w_285) (fun _ h9 => h9) rfl hin rfl (by decide +kernel) rfl rfl (Nat.le_of_ble_eq_true rfl) d_Md_init_41 (fun H locs hP hD hS => ?_)
  have hP : va_P D vwCl [(y, .inr (4, [.int 0, .ref t0, .ref t1, .ref t2, .ref t3, .ref t4, .int 0, .int 0, .int 0, .int 0, .int 0, .int 0, .long 0, .long 0, .int 0, .long 0, .long 0, .null])), (t0, .inl (c0, 64, .inl (fun _ => 0))), (t1, .inl (c1, 64, .inl (fun _ => 0))), (t2, .inl (c2, 64, .inl (fun _ => 0))), (t3, .inl (c3, 64, .inl (fun _ => 0))), (t4, .inl (c4, 64, .inl (fun _ => 0)))] H := hP
  have hD : va_D A [(y, .inr (4, [.int 0, .ref t0, .ref t1, .ref t2, .ref t3, .ref t4, .int 0, .int 0, .int 0, .int 0, .int 0, .int 0, .long 0, .long 0, .int 0, .long 0, .long 0, .null])), (t0, .inl (c0, 64, .inl (fun _ => 0))), (t1, .inl (c1, 64, .inl (fun _ => 0))), (t2, .inl (c2, 64, .inl (fun _ => 0))), (t3, .inl (c3, 64, .inl (fun _ => 0))), (t4, .inl (c4, 64, .inl (fun _ => 0)))] := hD
  refine lv_aload_n hx hb d_Md_init_44 rfl (lv_at hl 0 rfl) ?_
  refine lv_bipush (v := 64) hx hb d_Md_init_45 (by decide) ?_
  refine va_newa (atype := .int) (ty := .int) (a0 := (64, .inl (fun _ => 0))) (N' := 64) hx hb (hts _ w_336) rfl hK hP hD hS hA (fun _ => rfl) (by decide) rfl (by decide) (show 6 ≤ 6 by decide) (show 384 ≤ 384 by decide) d_Md_init_47 (fun t5 c5 H hK hP hD hS => ?_)
  refine W.widen (k := 6) (n := 384) (by omega) (by omega) ?_
  have hP : va_P D vwCl [(y, .inr (4, [.int 0, .ref t0, .ref t1, .ref t2, .ref t3, .ref t4, .int 0, .int 0, .int 0, .int 0, .int 0, .int 0, .long 0, .long 0, .int 0, .long 0, .long 0, .null])), (t0, .inl (c0, 64, .inl (fun _ => 0))), (t1, .inl (c1, 64, .inl (fun _ => 0))), (t2, .inl (c2, 64, .inl (fun _ => 0))), (t3, .inl (c3, 64, .inl (fun _ => 0))), (t4, .inl (c4, 64, .inl (fun _ => 0))), (t5, .inl (c5, 64, .inl (fun _ => 0)))] H := hP
  have hD : va_D A [(y, .inr (4, [.int 0, .ref t0, .ref t1, .ref t2, .ref t3, .ref t4, .int 0, .int 0, .int 0, .int 0, .int 0, .int 0, .long 0, .long 0, .int 0, .long 0, .long 0, .null])), (t0, .inl (c0, 64, .inl (fun _ => 0))), (t1, .inl (c1, 64, .inl (fun _ => 0))), (t2, .inl (c2, 64, .inl (fun _ => 0))), (t3, .inl (c3, 64, .inl (fun _ => 0))), (t4, .inl (c4, 64, .inl (fun _ => 0))), (t5, .inl (c5, 64, .inl (fun _ => 0)))] := hD
  have hK : va_K D vwCl [(c0, .boolean), (c1, .int), (c2, .int), (c3, .int), (c4, .int), (c5, .int)] s := hK
  refine va_putF (D := D) (ci := 4) (v := .ref t5) (ty := (.array .int)) (C := "RayFieldModel") (T := F_Md) (N := 18) hx hb hts in_Md t_Md tok_Md nn_Md hown hK hP hD hS 0 rfl rfl 17 (by decide) (hts _ w_297) (fun _ h9 => h9) rfl hin rfl (by decide +kernel) rfl rfl (Nat.le_of_ble_eq_true rfl) d_Md_init_49 (fun H locs hP hD hS => ?_)
  have hP : va_P D vwCl [(y, .inr (4, [.int 0, .ref t0, .ref t1, .ref t2, .ref t3, .ref t4, .int 0, .int 0, .int 0, .int 0, .int 0, .int 0, .long 0, .long 0, .int 0, .long 0, .long 0, .ref t5])), (t0, .inl (c0, 64, .inl (fun _ => 0))), (t1, .inl (c1, 64, .inl (fun _ => 0))), (t2, .inl (c2, 64, .inl (fun _ => 0))), (t3, .inl (c3, 64, .inl (fun _ => 0))), (t4, .inl (c4, 64, .inl (fun _ => 0))), (t5, .inl (c5, 64, .inl (fun _ => 0)))] H := hP
  have hD : va_D A [(y, .inr (4, [.int 0, .ref t0, .ref t1, .ref t2, .ref t3, .ref t4, .int 0, .int 0, .int 0, .int 0, .int 0, .int 0, .long 0, .long 0, .int 0, .long 0, .long 0, .ref t5])), (t0, .inl (c0, 64, .inl (fun _ => 0))), (t1, .inl (c1, 64, .inl (fun _ => 0))), (t2, .inl (c2, 64, .inl (fun _ => 0))), (t3, .inl (c3, 64, .inl (fun _ => 0))), (t4, .inl (c4, 64, .inl (fun _ => 0))), (t5, .inl (c5, 64, .inl (fun _ => 0)))] := hD
  exact W.vret hx hb hr (fun t ht hW => ⟨⟨(t0, t1, t2, t3, t4, t5, c0, c1, c2, c3, c4, c5), rfl, trivial, by rw [ht]; exact hP, hD, va_K.moved hW.alike hK⟩, hS.F ht⟩) hS.2.2 d_Md_init_52
