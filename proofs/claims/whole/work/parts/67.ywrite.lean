set_option maxHeartbeats 4000000 in
set_option maxRecDepth 100000 in
theorem c_Md_put (l : Launch) (D : va_G) (y t0 t1 t2 t3 t4 t5 : Nat) (c0 c1 c2 c3 c4 c5 : ClassId) (ma ha ex ey dx dy : Int32) (ab be : Int64) (ri : Int32) (o1 o2 : Int64) (f0 f1 f2 f3 f4 f5 : Nat → Int32) (wl : Nat → Option Q4) (hY : rf_YF wl f0 f1 f2 f3 f4) (a1 a2 b1 b2 : Int32) (sz : Nat) : Met l y_Md_put (.code y_Md_put b_Md_put 7 (some (.int)) :: BIG) { frames := 3, cells := 0, slots := 0, locals := 120 } (rf_Pc D (y_t c0 c1 c2 c3 c4 c5) [.ref y, .int a1, .int a2, .int b1, .int b2] (fun h => h.size = sz ∧ va_P D vwCl (y_7 y t0 t1 t2 t3 t4 t5 c0 c1 c2 c3 c4 c5 ma ha ex ey dx dy ab be ri o1 o2 f0 f1 f2 f3 f4 f5) h ∧ va_D (fun _ => True) (y_7 y t0 t1 t2 t3 t4 t5 c0 c1 c2 c3 c4 c5 ma ha ex ey dx dy ab be ri o1 o2 f0 f1 f2 f3 f4 f5))) (va_Qi (S := Int32 × (Nat → Int32) × (Nat → Int32) × (Nat → Int32) × (Nat → Int32) × (Nat → Int32) × (Nat → Option Q4)) (fun r u => ((∃ k, rf_putok (fun v w => ¬ k_apart v w) wl (a1, a2, b1, b2) k ∧ r = nI k ∧ u.2.2.2.2.2.2 = va_up wl k (some (a1, a2, b1, b2)) ∧ u.1 = ma + 1) ∨ ((∀ k, ¬ rf_putok (fun v w => ¬ k_apart v w) wl (a1, a2, b1, b2) k) ∧ r = -1 ∧ u.2.2.2.2.2.2 = wl ∧ u.1 = ma)) ∧ rf_YF u.2.2.2.2.2.2 u.2.1 u.2.2.1 u.2.2.2.1 u.2.2.2.2.1 u.2.2.2.2.2.1) (fun u t => va_P D vwCl (y_7 y t0 t1 t2 t3 t4 t5 c0 c1 c2 c3 c4 c5 u.1 ha ex ey dx dy ab be ri o1 o2 u.2.1 u.2.2.1 u.2.2.2.1 u.2.2.2.2.1 u.2.2.2.2.2.1 f5) t.heap ∧ va_D (va_A (y_7 y t0 t1 t2 t3 t4 t5 c0 c1 c2 c3 c4 c5 ma ha ex ey dx dy ab be ri o1 o2 f0 f1 f2 f3 f4 f5) sz) (y_7 y t0 t1 t2 t3 t4 t5 c0 c1 c2 c3 c4 c5 u.1 ha ex ey dx dy ab be ri o1 o2 u.2.1 u.2.2.1 u.2.2.2.1 u.2.2.2.2.1 u.2.2.2.2.2.1 f5)) (va_A (y_7 y t0 t1 t2 t3 t4 t5 c0 c1 c2 c3 c4 c5 ma ha ex ey dx dy ab be ri o1 o2 f0 f1 f2 f3 f4 f5) sz)) 0 0 (va_A (y_7 y t0 t1 t2 t3 t4 t5 c0 c1 c2 c3 c4 c5 ma ha ex ey dx dy ab be ri o1 o2 f0 f1 f2 f3 f4 f5) sz) := by
  refine Met.ofW (cc := b_Md_put) (maxL := 7) (ret := (some (.int))) (by decide) rfl ?_
  intro p e s m args below meth c s₁ B hml hv
  obtain ⟨rfl, hE, hP⟩ := hv
  have hx := B.exec
  have hb := B.bytes
  have hr := B.returns
  have hts : ∀ w ∈ BIG, w.before [.ref y, .int a1, .int a2, .int b1, .int b2].toArray s = true := fun w h => atoms_spec (ws := .code y_Md_put b_Md_put 7 (some (.int)) :: BIG) B.pre w (List.mem_cons_of_mem _ h)
  have hown : s.vm.findClass "RayFieldModel" = some m.cls := findClass_of_methodNamed B.named
  have hlocks := B.notSynchronized
  have hK := hE.2
  have S0 : CallFix p m c b_Md_put 7 s [.ref y, .int a1, .int a2, .int b1, .int b2].toArray BIG "RayFieldModel" := ⟨hx, hb, hml, hown, hts⟩
  have hl := lv_entry ([.ref y, .int a1, .int a2, .int b1, .int b2]) (n := 7) (Nat.le_of_ble_eq_true rfl)
  rw [lg_entry_eq]
  generalize (lg_sl ([.ref y, .int a1, .int a2, .int b1, .int b2]) ++ List.replicate (7 - (lg_sl ([.ref y, .int a1, .int a2, .int b1, .int b2])).length) Slot.unset).toArray = ls at hl ⊢
  have hl : lv_has ls 7 [(0, .ref y), (1, .int a1), (2, .int a2), (3, .int b1), (4, .int b2)] := hl
  obtain ⟨hsz, hP, hD0⟩ := hP
  subst hsz
  have hD := hD0.self (sz := s.heap.size)
  generalize hAe : va_A (y_7 y t0 t1 t2 t3 t4 t5 c0 c1 c2 c3 c4 c5 ma ha ex ey dx dy ab be ri o1 o2 f0 f1 f2 f3 f4 f5) s.heap.size = A at hD ⊢
  have hA : ∀ q : Nat, s.heap.size ≤ q → A q := fun q h => by rw [← hAe]; exact Or.inr h
  obtain ⟨H, hH⟩ : ∃ H : Heap, H = s.heap := ⟨_, rfl⟩
  refine rf_heap hH ?_
  have hS : va_S A s.heap H [] := by rw [hH]; exact va_S.rf
  have hP : va_P D vwCl (y_7 y t0 t1 t2 t3 t4 t5 c0 c1 c2 c3 c4 c5 ma ha ex ey dx dy ab be ri o1 o2 f0 f1 f2 f3 f4 f5) H := by rw [hH]; exact hP
  refine lv_aload_n hx hb d_Md_put_0 rfl (lv_at hl 0 rfl) ?_
  refine lv_iconst (v := 0) hx hb d_Md_put_1 (by decide) ?_
  refine va_put (D := D) (ci := 4) (v := .int 0) (ty := .int) (C := "RayFieldModel") (T := F_Md) (N := 18) hx hb hts in_Md t_Md tok_Md nn_Md hown hK hP hD hS 0 rfl rfl 0 (by decide) (hts _ w_280) (fun _ h9 => h9) rfl (by decide +kernel) rfl rfl (Nat.le_of_ble_eq_true rfl) d_Md_put_2 (fun H locs hP hD hS => ?_)
  have hP : va_P D vwCl (y_7 y t0 t1 t2 t3 t4 t5 c0 c1 c2 c3 c4 c5 ma ha ex ey dx dy ab be ri o1 o2 f0 f1 f2 f3 f4 f5) H := hP
  have hD : va_D A (y_7 y t0 t1 t2 t3 t4 t5 c0 c1 c2 c3 c4 c5 ma ha ex ey dx dy ab be ri o1 o2 f0 f1 f2 f3 f4 f5) := hD
  refine lv_aload_n hx hb d_Md_put_5 rfl (lv_at hl 0 rfl) ?_
  refine vp_callSi (va_Run.run (rf_runV (As := []) (rest := []) S0 ml_Md_44 (c_Md_free l D y t0 t1 t2 t3 t4 t5 c0 c1 c2 c3 c4 c5 ma ha ex ey dx dy ab be ri o1 o2 f0 f1 f2 f3 f4 f5 wl hY) hE (va_recv hK hP (ci := 4) (q0 := 0) rfl rfl) hP ⟨rfl, rfl, Nat.le_of_ble_eq_true rfl, Nat.le_of_ble_eq_true rfl⟩ rfl hl.1 rfl (Nat.le_of_ble_eq_true rfl) d_Md_put_6 ⟨Nat.zero_le _, Nat.zero_le _⟩)) (fun r_1 h_2 => ?_)
  rcases h_2 with ⟨k, hk, er, hkn, hk2⟩ | ⟨er, hk1⟩
  · subst er
    refine lv_istore (lv' := [(5, .int (nI k)), (0, .ref y), (1, .int a1), (2, .int a2), (3, .int b1), (4, .int b2)]) hx hb d_Md_put_9 hl (by decide) rfl (fun ls hl => ?_)
    refine lv_iload_n hx hb d_Md_put_11 rfl (lv_at hl 2 rfl) ?_
    refine lv_sipush (v := 2000) hx hb d_Md_put_12 (by decide) ?_
    refine vp_callSi (va_Run.run (rf_runS (As := [.int a1, .int 2000]) (rest := []) S0 ml_Md_48 (c_Md_isIn l D (y_t c0 c1 c2 c3 c4 c5) a1 2000) hE trivial ⟨rfl, rfl, Nat.le_of_ble_eq_true rfl, Nat.le_of_ble_eq_true rfl⟩ rfl hl.1 rfl (Nat.le_of_ble_eq_true rfl) d_Md_put_15 ⟨Nat.zero_le _, Nat.zero_le _⟩)) (fun r_3 h_4 => ?_)
    refine lv_if_eq (tgt := 68) hx hb d_Md_put_18 (by decide) (fun c_5 => ?_) (fun c_5 => ?_)
    · refine lv_iconst (v := -1) hx hb d_Md_put_68 (by decide) ?_
      exact W.iret (v := (-1)) hx hb hr (fun t ht hW => ⟨⟨_, (ma, f0, f1, f2, f3, f4, wl), rfl, ⟨Or.inr ⟨fun k9 h => (h_4.f c_5) h.1.1, rfl, rfl, rfl⟩, hY⟩, by rw [ht]; exact hP, hD⟩, hS.F ht⟩) hS.2.2 d_Md_put_69
    · refine lv_iload_n hx hb d_Md_put_21 rfl (lv_at hl 3 rfl) ?_
      refine lv_sipush (v := 2000) hx hb d_Md_put_22 (by decide) ?_
      refine vp_callSi (va_Run.run (rf_runS (As := [.int a2, .int 2000]) (rest := []) S0 ml_Md_48 (c_Md_isIn l D (y_t c0 c1 c2 c3 c4 c5) a2 2000) hE trivial ⟨rfl, rfl, Nat.le_of_ble_eq_true rfl, Nat.le_of_ble_eq_true rfl⟩ rfl hl.1 rfl (Nat.le_of_ble_eq_true rfl) d_Md_put_25 ⟨Nat.zero_le _, Nat.zero_le _⟩)) (fun r_6 h_7 => ?_)
      refine lv_if_eq (tgt := 68) hx hb d_Md_put_28 (by decide) (fun c_8 => ?_) (fun c_8 => ?_)
      · refine lv_iconst (v := -1) hx hb d_Md_put_68 (by decide) ?_
        exact W.iret (v := (-1)) hx hb hr (fun t ht hW => ⟨⟨_, (ma, f0, f1, f2, f3, f4, wl), rfl, ⟨Or.inr ⟨fun k9 h => (h_7.f c_8) h.1.2, rfl, rfl, rfl⟩, hY⟩, by rw [ht]; exact hP, hD⟩, hS.F ht⟩) hS.2.2 d_Md_put_69
      · refine lv_iload_n hx hb d_Md_put_31 rfl (lv_at hl 4 rfl) ?_
        refine lv_sipush (v := 2000) hx hb d_Md_put_32 (by decide) ?_
        refine vp_callSi (va_Run.run (rf_runS (As := [.int b1, .int 2000]) (rest := []) S0 ml_Md_48 (c_Md_isIn l D (y_t c0 c1 c2 c3 c4 c5) b1 2000) hE trivial ⟨rfl, rfl, Nat.le_of_ble_eq_true rfl, Nat.le_of_ble_eq_true rfl⟩ rfl hl.1 rfl (Nat.le_of_ble_eq_true rfl) d_Md_put_35 ⟨Nat.zero_le _, Nat.zero_le _⟩)) (fun r_9 h_10 => ?_)
        refine lv_if_eq (tgt := 68) hx hb d_Md_put_38 (by decide) (fun c_11 => ?_) (fun c_11 => ?_)
        · refine lv_iconst (v := -1) hx hb d_Md_put_68 (by decide) ?_
          exact W.iret (v := (-1)) hx hb hr (fun t ht hW => ⟨⟨_, (ma, f0, f1, f2, f3, f4, wl), rfl, ⟨Or.inr ⟨fun k9 h => (h_10.f c_11) h.2.1.1, rfl, rfl, rfl⟩, hY⟩, by rw [ht]; exact hP, hD⟩, hS.F ht⟩) hS.2.2 d_Md_put_69
        · refine lv_iload hx hb d_Md_put_41 (lv_at hl 5 rfl) ?_
          refine lv_sipush (v := 2000) hx hb d_Md_put_43 (by decide) ?_
          refine vp_callSi (va_Run.run (rf_runS (As := [.int b2, .int 2000]) (rest := []) S0 ml_Md_48 (c_Md_isIn l D (y_t c0 c1 c2 c3 c4 c5) b2 2000) hE trivial ⟨rfl, rfl, Nat.le_of_ble_eq_true rfl, Nat.le_of_ble_eq_true rfl⟩ rfl hl.1 rfl (Nat.le_of_ble_eq_true rfl) d_Md_put_46 ⟨Nat.zero_le _, Nat.zero_le _⟩)) (fun r_12 h_13 => ?_)
          refine lv_if_eq (tgt := 68) hx hb d_Md_put_49 (by decide) (fun c_14 => ?_) (fun c_14 => ?_)
          · refine lv_iconst (v := -1) hx hb d_Md_put_68 (by decide) ?_
            exact W.iret (v := (-1)) hx hb hr (fun t ht hW => ⟨⟨_, (ma, f0, f1, f2, f3, f4, wl), rfl, ⟨Or.inr ⟨fun k9 h => (h_13.f c_14) h.2.1.2, rfl, rfl, rfl⟩, hY⟩, by rw [ht]; exact hP, hD⟩, hS.F ht⟩) hS.2.2 d_Md_put_69
          · refine lv_iload_n hx hb d_Md_put_52 rfl (lv_at hl 2 rfl) ?_
            refine lv_iload_n hx hb d_Md_put_53 rfl (lv_at hl 4 rfl) ?_
            refine lv_icmp_ne (tgt := 63) hx hb d_Md_put_54 (by decide) (fun c_15 => ?_) (fun c_15 => ?_)
            · refine lv_iload hx hb d_Md_put_63 (lv_at hl 0 rfl) ?_
              refine lv_if_ge (tgt := 70) hx hb d_Md_put_65 (by decide) (fun c_16 => ?_) (fun c_16 => absurd (nI_pos' (show k < 2 ^ 31 by omega)) c_16)
              refine lv_aload_n hx hb d_Md_put_70 rfl (lv_at hl 1 rfl) ?_
              refine va_get (D := D) (ci := 4) (v := .ref t1) (C := "RayFieldModel") (T := F_Md) (N := 18) hx hb hts in_Md hown hK hP 0 rfl rfl 2 (by decide) (hts _ w_282) (fun _ h9 => h9) rfl d_Md_put_71 ?_
              refine lv_iload hx hb d_Md_put_74 (lv_at hl 0 rfl) ?_
              refine lv_iload_n hx hb d_Md_put_76 rfl (lv_at hl 2 rfl) ?_
              refine rf_iast hx hb hK hP hD hS 2 1 rfl rfl hk (by decide) d_Md_put_77 (fun H locs hP hD hS => ?_)
              have hP : va_P D vwCl (y_7 y t0 t1 t2 t3 t4 t5 c0 c1 c2 c3 c4 c5 ma ha ex ey dx dy ab be ri o1 o2 f0 (upd f1 k a1) f2 f3 f4 f5) H := hP
              have hD : va_D A (y_7 y t0 t1 t2 t3 t4 t5 c0 c1 c2 c3 c4 c5 ma ha ex ey dx dy ab be ri o1 o2 f0 (upd f1 k a1) f2 f3 f4 f5) := hD
              refine lv_aload_n hx hb d_Md_put_78 rfl (lv_at hl 1 rfl) ?_
              refine va_get (D := D) (ci := 4) (v := .ref t2) (C := "RayFieldModel") (T := F_Md) (N := 18) hx hb hts in_Md hown hK hP 0 rfl rfl 3 (by decide) (hts _ w_283) (fun _ h9 => h9) rfl d_Md_put_79 ?_
              refine lv_iload hx hb d_Md_put_82 (lv_at hl 0 rfl) ?_
              refine lv_iload_n hx hb d_Md_put_84 rfl (lv_at hl 3 rfl) ?_
              refine rf_iast hx hb hK hP hD hS 3 2 rfl rfl hk (by decide) d_Md_put_85 (fun H locs hP hD hS => ?_)
              have hP : va_P D vwCl (y_7 y t0 t1 t2 t3 t4 t5 c0 c1 c2 c3 c4 c5 ma ha ex ey dx dy ab be ri o1 o2 f0 (upd f1 k a1) (upd f2 k a2) f3 f4 f5) H := hP
              have hD : va_D A (y_7 y t0 t1 t2 t3 t4 t5 c0 c1 c2 c3 c4 c5 ma ha ex ey dx dy ab be ri o1 o2 f0 (upd f1 k a1) (upd f2 k a2) f3 f4 f5) := hD
              refine lv_aload_n hx hb d_Md_put_86 rfl (lv_at hl 1 rfl) ?_
              refine va_get (D := D) (ci := 4) (v := .ref t3) (C := "RayFieldModel") (T := F_Md) (N := 18) hx hb hts in_Md hown hK hP 0 rfl rfl 4 (by decide) (hts _ w_284) (fun _ h9 => h9) rfl d_Md_put_87 ?_
              refine lv_iload hx hb d_Md_put_90 (lv_at hl 0 rfl) ?_
              refine lv_iload_n hx hb d_Md_put_92 rfl (lv_at hl 4 rfl) ?_
              refine rf_iast hx hb hK hP hD hS 4 3 rfl rfl hk (by decide) d_Md_put_93 (fun H locs hP hD hS => ?_)
              have hP : va_P D vwCl (y_7 y t0 t1 t2 t3 t4 t5 c0 c1 c2 c3 c4 c5 ma ha ex ey dx dy ab be ri o1 o2 f0 (upd f1 k a1) (upd f2 k a2) (upd f3 k b1) f4 f5) H := hP
              have hD : va_D A (y_7 y t0 t1 t2 t3 t4 t5 c0 c1 c2 c3 c4 c5 ma ha ex ey dx dy ab be ri o1 o2 f0 (upd f1 k a1) (upd f2 k a2) (upd f3 k b1) f4 f5) := hD
              refine lv_aload_n hx hb d_Md_put_94 rfl (lv_at hl 1 rfl) ?_
              refine va_get (D := D) (ci := 4) (v := .ref t4) (C := "RayFieldModel") (T := F_Md) (N := 18) hx hb hts in_Md hown hK hP 0 rfl rfl 5 (by decide) (hts _ w_285) (fun _ h9 => h9) rfl d_Md_put_95 ?_
              refine lv_iload hx hb d_Md_put_98 (lv_at hl 0 rfl) ?_
              refine lv_iload hx hb d_Md_put_100 (lv_at hl 5 rfl) ?_
              refine rf_iast hx hb hK hP hD hS 5 4 rfl rfl hk (by decide) d_Md_put_102 (fun H locs hP hD hS => ?_)
              have hP : va_P D vwCl (y_7 y t0 t1 t2 t3 t4 t5 c0 c1 c2 c3 c4 c5 ma ha ex ey dx dy ab be ri o1 o2 f0 (upd f1 k a1) (upd f2 k a2) (upd f3 k b1) (upd f4 k b2) f5) H := hP
              have hD : va_D A (y_7 y t0 t1 t2 t3 t4 t5 c0 c1 c2 c3 c4 c5 ma ha ex ey dx dy ab be ri o1 o2 f0 (upd f1 k a1) (upd f2 k a2) (upd f3 k b1) (upd f4 k b2) f5) := hD
              refine lv_iconst (v := 0) hx hb d_Md_put_103 (by decide) ?_
              refine rf_topi nI_0.symm ?_
              refine lv_istore (lv' := [(6, .int (nI 0)), (5, .int (nI k)), (0, .ref y), (1, .int a1), (2, .int a2), (3, .int b1), (4, .int b2)]) hx hb d_Md_put_104 hl (by decide) rfl (fun ls hl => ?_)
              refine rf_loopP 106 64 (fun i ls => lv_has ls 7 [(6, .int (nI i)), (5, .int (nI k)), (0, .ref y), (1, .int a1), (2, .int a2), (3, .int b1), (4, .int b2)] ∧ (∀ j, j < i → ∀ w, wl j = some w → k_apart (a1, a2, b1, b2) w)) (fun ls hI => ?_) (fun i ls hi hI hk9 => ?_) 0 (Nat.zero_le _) ⟨lv_sub hl [0, 1, 2, 3, 4, 5, 6] rfl, fun j hj => absurd hj (Nat.not_lt_zero _)⟩
              · obtain ⟨hl, hJ⟩ := hI
                refine lv_iload hx hb d_Md_put_106 (lv_at hl 0 rfl) ?_
                refine lv_bipush (v := 64) hx hb d_Md_put_108 (by decide) ?_
                refine rf_topi rfl ?_
                refine lv_icmp_ge (tgt := 142) hx hb d_Md_put_110 (by decide) (fun c_17 => ?_) (fun c_17 => absurd (nI_le (Nat.le_refl _) (by decide)) c_17)
                refine lv_aload_n hx hb d_Md_put_142 rfl (lv_at hl 2 rfl) ?_
                refine va_get (D := D) (ci := 4) (v := .ref t0) (C := "RayFieldModel") (T := F_Md) (N := 18) hx hb hts in_Md hown hK hP 0 rfl rfl 1 (by decide) (hts _ w_281) (fun _ h9 => h9) rfl d_Md_put_143 ?_
                refine lv_iload hx hb d_Md_put_146 (lv_at hl 1 rfl) ?_
                refine lv_iconst (v := 1) hx hb d_Md_put_148 (by decide) ?_
                refine rf_zast hx hb hK hP hD hS 1 0 rfl rfl hk (by decide) rfl d_Md_put_149 (fun H locs hP hD hS => ?_)
                have hP : va_P D vwCl (y_7 y t0 t1 t2 t3 t4 t5 c0 c1 c2 c3 c4 c5 ma ha ex ey dx dy ab be ri o1 o2 (upd f0 k 1) (upd f1 k a1) (upd f2 k a2) (upd f3 k b1) (upd f4 k b2) f5) H := hP
                have hD : va_D A (y_7 y t0 t1 t2 t3 t4 t5 c0 c1 c2 c3 c4 c5 ma ha ex ey dx dy ab be ri o1 o2 (upd f0 k 1) (upd f1 k a1) (upd f2 k a2) (upd f3 k b1) (upd f4 k b2) f5) := hD
                refine lv_aload_n hx hb d_Md_put_150 rfl (lv_at hl 2 rfl) ?_
                refine lv_dup hx hb d_Md_put_151 rfl ?_
                refine va_get (D := D) (ci := 4) (v := .int ma) (C := "RayFieldModel") (T := F_Md) (N := 18) hx hb hts in_Md hown hK hP 0 rfl rfl 6 (by decide) (hts _ w_286) (fun _ h9 => h9) rfl d_Md_put_152 ?_
                refine lv_iconst (v := 1) hx hb d_Md_put_155 (by decide) ?_
                refine lv_iadd hx hb d_Md_put_156 ?_
                refine va_put (D := D) (ci := 4) (v := .int (ma + 1)) (ty := .int) (C := "RayFieldModel") (T := F_Md) (N := 18) hx hb hts in_Md t_Md tok_Md nn_Md hown hK hP hD hS 0 rfl rfl 6 (by decide) (hts _ w_286) (fun _ h9 => h9) rfl (by decide +kernel) rfl rfl (Nat.le_of_ble_eq_true rfl) d_Md_put_157 (fun H locs hP hD hS => ?_)
                have hP : va_P D vwCl (y_7 y t0 t1 t2 t3 t4 t5 c0 c1 c2 c3 c4 c5 (ma + 1) ha ex ey dx dy ab be ri o1 o2 (upd f0 k 1) (upd f1 k a1) (upd f2 k a2) (upd f3 k b1) (upd f4 k b2) f5) H := hP
                have hD : va_D A (y_7 y t0 t1 t2 t3 t4 t5 c0 c1 c2 c3 c4 c5 (ma + 1) ha ex ey dx dy ab be ri o1 o2 (upd f0 k 1) (upd f1 k a1) (upd f2 k a2) (upd f3 k b1) (upd f4 k b2) f5) := hD
                refine lv_iload hx hb d_Md_put_160 (lv_at hl 1 rfl) ?_
                exact W.iret (v := nI k) hx hb hr (fun t ht hW => ⟨⟨_, (ma + 1, upd f0 k 1, upd f1 k a1, upd f2 k a2, upd f3 k b1, upd f4 k b2, va_up wl k (some (a1, a2, b1, b2))), rfl, ⟨Or.inl ⟨k, ⟨⟨(h_4.t c_5), (h_7.t c_8)⟩, ⟨(h_10.t c_11), (h_13.t c_14)⟩, (fun z => c_15 z.1), hk, hkn, hk2, fun ⟨j, hj, w0, q1, q2⟩ => q2 (hJ j hj w0 q1)⟩, rfl, rfl, rfl⟩, hY.put⟩, by rw [ht]; exact hP, hD⟩, hS.F ht⟩) hS.2.2 d_Md_put_162
              · obtain ⟨hl, hJ⟩ := hI
                refine lv_iload hx hb d_Md_put_106 (lv_at hl 0 rfl) ?_
                refine lv_bipush (v := 64) hx hb d_Md_put_108 (by decide) ?_
                refine rf_topi rfl ?_
                refine lv_icmp_ge (tgt := 142) hx hb d_Md_put_110 (by decide) (fun c_18 => absurd c_18 (nI_ge hi (by decide))) (fun c_18 => ?_)
                refine lv_aload_n hx hb d_Md_put_113 rfl (lv_at hl 2 rfl) ?_
                refine va_get (D := D) (ci := 4) (v := .ref t0) (C := "RayFieldModel") (T := F_Md) (N := 18) hx hb hts in_Md hown hK hP 0 rfl rfl 1 (by decide) (hts _ w_281) (fun _ h9 => h9) rfl d_Md_put_114 ?_
                refine lv_iload hx hb d_Md_put_117 (lv_at hl 0 rfl) ?_
                refine rf_zald hx hb hK hP 1 0 rfl rfl hi (by decide) d_Md_put_119 ?_
                refine lv_if_eq (tgt := 136) hx hb d_Md_put_120 (by decide) (fun c_19 => ?_) (fun c_19 => ?_)
                · refine lv_iinc (v := (nI (i + 1))) (lv' := [(6, .int (nI (i + 1))), (5, .int (nI k)), (0, .ref y), (1, .int a1), (2, .int a2), (3, .int b1), (4, .int b2)]) hx hb d_Md_put_136 hl (k := 0) rfl (nI_1 i) (by decide) rfl (fun ls hl => ?_)
                  refine lv_goto (tgt := 106) hx hb d_Md_put_139 (by decide) ?_
                  exact hk9 _ ⟨lv_sub hl [0, 1, 2, 3, 4, 5, 6] rfl, lt_s hJ (fun w0 q => by rw [hY.zero hi c_19] at q; cases q)⟩
                · refine lv_aload_n hx hb d_Md_put_123 rfl (lv_at hl 2 rfl) ?_
                  refine lv_iload hx hb d_Md_put_124 (lv_at hl 1 rfl) ?_
                  refine lv_iload hx hb d_Md_put_126 (lv_at hl 0 rfl) ?_
                  refine vp_callSi (va_Run.run (rf_runV (As := [.int (nI k), .int (nI i)]) (rest := []) S0 ml_Md_52 (c_Md_areApart l D y t0 t1 t2 t3 t4 t5 c0 c1 c2 c3 c4 c5 ma ha ex ey dx dy ab be ri o1 o2 f0 (upd f1 k a1) (upd f2 k a2) (upd f3 k b1) (upd f4 k b2) f5 k i hk hi) hE (va_recv hK hP (ci := 4) (q0 := 0) rfl rfl) hP ⟨rfl, rfl, Nat.le_of_ble_eq_true rfl, Nat.le_of_ble_eq_true rfl⟩ rfl hl.1 rfl (Nat.le_of_ble_eq_true rfl) d_Md_put_128 ⟨Nat.zero_le _, Nat.zero_le _⟩)) (fun r_20 h_21 => ?_)
                  have ha_22 := h_21.to (rf_putx hY hkn hi c_19 (P := k_apart))
                  refine lv_if_ne (tgt := 136) hx hb d_Md_put_131 (by decide) (fun c_23 => ?_) (fun c_23 => ?_)
                  · refine lv_iinc (v := (nI (i + 1))) (lv' := [(6, .int (nI (i + 1))), (5, .int (nI k)), (0, .ref y), (1, .int a1), (2, .int a2), (3, .int b1), (4, .int b2)]) hx hb d_Md_put_136 hl (k := 0) rfl (nI_1 i) (by decide) rfl (fun ls hl => ?_)
                    refine lv_goto (tgt := 106) hx hb d_Md_put_139 (by decide) ?_
                    exact hk9 _ ⟨lv_sub hl [0, 1, 2, 3, 4, 5, 6] rfl, lt_s hJ (fun w0 q => by rw [hY.one hi c_19] at q; cases q; exact (ha_22.t c_23))⟩
                  · refine lv_iconst (v := -1) hx hb d_Md_put_134 (by decide) ?_
                    exact W.iret (v := (-1)) hx hb hr (fun t ht hW => ⟨⟨_, (ma, f0, upd f1 k a1, upd f2 k a2, upd f3 k b1, upd f4 k b2, wl), rfl, ⟨Or.inr ⟨(fun k9 h => h.2.2.2.2.2.2 ⟨i, hi, _, hY.one hi c_19, (ha_22.f c_23)⟩), rfl, rfl, rfl⟩, hY.fit hkn⟩, by rw [ht]; exact hP, hD⟩, hS.F ht⟩) hS.2.2 d_Md_put_135
            · refine lv_iload_n hx hb d_Md_put_57 rfl (lv_at hl 3 rfl) ?_
              refine lv_iload hx hb d_Md_put_58 (lv_at hl 5 rfl) ?_
              refine lv_icmp_eq (tgt := 68) hx hb d_Md_put_60 (by decide) (fun c_24 => ?_) (fun c_24 => ?_)
              · refine lv_iconst (v := -1) hx hb d_Md_put_68 (by decide) ?_
                exact W.iret (v := (-1)) hx hb hr (fun t ht hW => ⟨⟨_, (ma, f0, f1, f2, f3, f4, wl), rfl, ⟨Or.inr ⟨fun k9 h => h.2.2.1 ⟨c_15, c_24⟩, rfl, rfl, rfl⟩, hY⟩, by rw [ht]; exact hP, hD⟩, hS.F ht⟩) hS.2.2 d_Md_put_69
              · refine lv_iload hx hb d_Md_put_63 (lv_at hl 0 rfl) ?_
                refine lv_if_ge (tgt := 70) hx hb d_Md_put_65 (by decide) (fun c_25 => ?_) (fun c_25 => absurd (nI_pos' (show k < 2 ^ 31 by omega)) c_25)
                refine lv_aload_n hx hb d_Md_put_70 rfl (lv_at hl 1 rfl) ?_
                refine va_get (D := D) (ci := 4) (v := .ref t1) (C := "RayFieldModel") (T := F_Md) (N := 18) hx hb hts in_Md hown hK hP 0 rfl rfl 2 (by decide) (hts _ w_282) (fun _ h9 => h9) rfl d_Md_put_71 ?_
                refine lv_iload hx hb d_Md_put_74 (lv_at hl 0 rfl) ?_
                refine lv_iload_n hx hb d_Md_put_76 rfl (lv_at hl 2 rfl) ?_
                refine rf_iast hx hb hK hP hD hS 2 1 rfl rfl hk (by decide) d_Md_put_77 (fun H locs hP hD hS => ?_)
                have hP : va_P D vwCl (y_7 y t0 t1 t2 t3 t4 t5 c0 c1 c2 c3 c4 c5 ma ha ex ey dx dy ab be ri o1 o2 f0 (upd f1 k a1) f2 f3 f4 f5) H := hP
                have hD : va_D A (y_7 y t0 t1 t2 t3 t4 t5 c0 c1 c2 c3 c4 c5 ma ha ex ey dx dy ab be ri o1 o2 f0 (upd f1 k a1) f2 f3 f4 f5) := hD
                refine lv_aload_n hx hb d_Md_put_78 rfl (lv_at hl 1 rfl) ?_
                refine va_get (D := D) (ci := 4) (v := .ref t2) (C := "RayFieldModel") (T := F_Md) (N := 18) hx hb hts in_Md hown hK hP 0 rfl rfl 3 (by decide) (hts _ w_283) (fun _ h9 => h9) rfl d_Md_put_79 ?_
                refine lv_iload hx hb d_Md_put_82 (lv_at hl 0 rfl) ?_
                refine lv_iload_n hx hb d_Md_put_84 rfl (lv_at hl 3 rfl) ?_
                refine rf_iast hx hb hK hP hD hS 3 2 rfl rfl hk (by decide) d_Md_put_85 (fun H locs hP hD hS => ?_)
                have hP : va_P D vwCl (y_7 y t0 t1 t2 t3 t4 t5 c0 c1 c2 c3 c4 c5 ma ha ex ey dx dy ab be ri o1 o2 f0 (upd f1 k a1) (upd f2 k a2) f3 f4 f5) H := hP
                have hD : va_D A (y_7 y t0 t1 t2 t3 t4 t5 c0 c1 c2 c3 c4 c5 ma ha ex ey dx dy ab be ri o1 o2 f0 (upd f1 k a1) (upd f2 k a2) f3 f4 f5) := hD
                refine lv_aload_n hx hb d_Md_put_86 rfl (lv_at hl 1 rfl) ?_
                refine va_get (D := D) (ci := 4) (v := .ref t3) (C := "RayFieldModel") (T := F_Md) (N := 18) hx hb hts in_Md hown hK hP 0 rfl rfl 4 (by decide) (hts _ w_284) (fun _ h9 => h9) rfl d_Md_put_87 ?_
                refine lv_iload hx hb d_Md_put_90 (lv_at hl 0 rfl) ?_
                refine lv_iload_n hx hb d_Md_put_92 rfl (lv_at hl 4 rfl) ?_
                refine rf_iast hx hb hK hP hD hS 4 3 rfl rfl hk (by decide) d_Md_put_93 (fun H locs hP hD hS => ?_)
                have hP : va_P D vwCl (y_7 y t0 t1 t2 t3 t4 t5 c0 c1 c2 c3 c4 c5 ma ha ex ey dx dy ab be ri o1 o2 f0 (upd f1 k a1) (upd f2 k a2) (upd f3 k b1) f4 f5) H := hP
                have hD : va_D A (y_7 y t0 t1 t2 t3 t4 t5 c0 c1 c2 c3 c4 c5 ma ha ex ey dx dy ab be ri o1 o2 f0 (upd f1 k a1) (upd f2 k a2) (upd f3 k b1) f4 f5) := hD
                refine lv_aload_n hx hb d_Md_put_94 rfl (lv_at hl 1 rfl) ?_
                refine va_get (D := D) (ci := 4) (v := .ref t4) (C := "RayFieldModel") (T := F_Md) (N := 18) hx hb hts in_Md hown hK hP 0 rfl rfl 5 (by decide) (hts _ w_285) (fun _ h9 => h9) rfl d_Md_put_95 ?_
                refine lv_iload hx hb d_Md_put_98 (lv_at hl 0 rfl) ?_
                refine lv_iload hx hb d_Md_put_100 (lv_at hl 5 rfl) ?_
                refine rf_iast hx hb hK hP hD hS 5 4 rfl rfl hk (by decide) d_Md_put_102 (fun H locs hP hD hS => ?_)
                have hP : va_P D vwCl (y_7 y t0 t1 t2 t3 t4 t5 c0 c1 c2 c3 c4 c5 ma ha ex ey dx dy ab be ri o1 o2 f0 (upd f1 k a1) (upd f2 k a2) (upd f3 k b1) (upd f4 k b2) f5) H := hP
                have hD : va_D A (y_7 y t0 t1 t2 t3 t4 t5 c0 c1 c2 c3 c4 c5 ma ha ex ey dx dy ab be ri o1 o2 f0 (upd f1 k a1) (upd f2 k a2) (upd f3 k b1) (upd f4 k b2) f5) := hD
                refine lv_iconst (v := 0) hx hb d_Md_put_103 (by decide) ?_
                refine rf_topi nI_0.symm ?_
                refine lv_istore (lv' := [(6, .int (nI 0)), (5, .int (nI k)), (0, .ref y), (1, .int a1), (2, .int a2), (3, .int b1), (4, .int b2)]) hx hb d_Md_put_104 hl (by decide) rfl (fun ls hl => ?_)
                refine rf_loopP 106 64 (fun i ls => lv_has ls 7 [(6, .int (nI i)), (5, .int (nI k)), (0, .ref y), (1, .int a1), (2, .int a2), (3, .int b1), (4, .int b2)] ∧ (∀ j, j < i → ∀ w, wl j = some w → k_apart (a1, a2, b1, b2) w)) (fun ls hI => ?_) (fun i ls hi hI hk9 => ?_) 0 (Nat.zero_le _) ⟨lv_sub hl [0, 1, 2, 3, 4, 5, 6] rfl, fun j hj => absurd hj (Nat.not_lt_zero _)⟩
                · obtain ⟨hl, hJ⟩ := hI
                  refine lv_iload hx hb d_Md_put_106 (lv_at hl 0 rfl) ?_
                  refine lv_bipush (v := 64) hx hb d_Md_put_108 (by decide) ?_
                  refine rf_topi rfl ?_
                  refine lv_icmp_ge (tgt := 142) hx hb d_Md_put_110 (by decide) (fun c_26 => ?_) (fun c_26 => absurd (nI_le (Nat.le_refl _) (by decide)) c_26)
                  refine lv_aload_n hx hb d_Md_put_142 rfl (lv_at hl 2 rfl) ?_
                  refine va_get (D := D) (ci := 4) (v := .ref t0) (C := "RayFieldModel") (T := F_Md) (N := 18) hx hb hts in_Md hown hK hP 0 rfl rfl 1 (by decide) (hts _ w_281) (fun _ h9 => h9) rfl d_Md_put_143 ?_
                  refine lv_iload hx hb d_Md_put_146 (lv_at hl 1 rfl) ?_
                  refine lv_iconst (v := 1) hx hb d_Md_put_148 (by decide) ?_
                  refine rf_zast hx hb hK hP hD hS 1 0 rfl rfl hk (by decide) rfl d_Md_put_149 (fun H locs hP hD hS => ?_)
                  have hP : va_P D vwCl (y_7 y t0 t1 t2 t3 t4 t5 c0 c1 c2 c3 c4 c5 ma ha ex ey dx dy ab be ri o1 o2 (upd f0 k 1) (upd f1 k a1) (upd f2 k a2) (upd f3 k b1) (upd f4 k b2) f5) H := hP
                  have hD : va_D A (y_7 y t0 t1 t2 t3 t4 t5 c0 c1 c2 c3 c4 c5 ma ha ex ey dx dy ab be ri o1 o2 (upd f0 k 1) (upd f1 k a1) (upd f2 k a2) (upd f3 k b1) (upd f4 k b2) f5) := hD
                  refine lv_aload_n hx hb d_Md_put_150 rfl (lv_at hl 2 rfl) ?_
                  refine lv_dup hx hb d_Md_put_151 rfl ?_
                  refine va_get (D := D) (ci := 4) (v := .int ma) (C := "RayFieldModel") (T := F_Md) (N := 18) hx hb hts in_Md hown hK hP 0 rfl rfl 6 (by decide) (hts _ w_286) (fun _ h9 => h9) rfl d_Md_put_152 ?_
                  refine lv_iconst (v := 1) hx hb d_Md_put_155 (by decide) ?_
                  refine lv_iadd hx hb d_Md_put_156 ?_
                  refine va_put (D := D) (ci := 4) (v := .int (ma + 1)) (ty := .int) (C := "RayFieldModel") (T := F_Md) (N := 18) hx hb hts in_Md t_Md tok_Md nn_Md hown hK hP hD hS 0 rfl rfl 6 (by decide) (hts _ w_286) (fun _ h9 => h9) rfl (by decide +kernel) rfl rfl (Nat.le_of_ble_eq_true rfl) d_Md_put_157 (fun H locs hP hD hS => ?_)
                  have hP : va_P D vwCl (y_7 y t0 t1 t2 t3 t4 t5 c0 c1 c2 c3 c4 c5 (ma + 1) ha ex ey dx dy ab be ri o1 o2 (upd f0 k 1) (upd f1 k a1) (upd f2 k a2) (upd f3 k b1) (upd f4 k b2) f5) H := hP
                  have hD : va_D A (y_7 y t0 t1 t2 t3 t4 t5 c0 c1 c2 c3 c4 c5 (ma + 1) ha ex ey dx dy ab be ri o1 o2 (upd f0 k 1) (upd f1 k a1) (upd f2 k a2) (upd f3 k b1) (upd f4 k b2) f5) := hD
                  refine lv_iload hx hb d_Md_put_160 (lv_at hl 1 rfl) ?_
                  exact W.iret (v := nI k) hx hb hr (fun t ht hW => ⟨⟨_, (ma + 1, upd f0 k 1, upd f1 k a1, upd f2 k a2, upd f3 k b1, upd f4 k b2, va_up wl k (some (a1, a2, b1, b2))), rfl, ⟨Or.inl ⟨k, ⟨⟨(h_4.t c_5), (h_7.t c_8)⟩, ⟨(h_10.t c_11), (h_13.t c_14)⟩, (fun z => c_24 z.2), hk, hkn, hk2, fun ⟨j, hj, w0, q1, q2⟩ => q2 (hJ j hj w0 q1)⟩, rfl, rfl, rfl⟩, hY.put⟩, by rw [ht]; exact hP, hD⟩, hS.F ht⟩) hS.2.2 d_Md_put_162
                · obtain ⟨hl, hJ⟩ := hI
                  refine lv_iload hx hb d_Md_put_106 (lv_at hl 0 rfl) ?_
                  refine lv_bipush (v := 64) hx hb d_Md_put_108 (by decide) ?_
                  refine rf_topi rfl ?_
                  refine lv_icmp_ge (tgt := 142) hx hb d_Md_put_110 (by decide) (fun c_27 => absurd c_27 (nI_ge hi (by decide))) (fun c_27 => ?_)
                  refine lv_aload_n hx hb d_Md_put_113 rfl (lv_at hl 2 rfl) ?_
                  refine va_get (D := D) (ci := 4) (v := .ref t0) (C := "RayFieldModel") (T := F_Md) (N := 18) hx hb hts in_Md hown hK hP 0 rfl rfl 1 (by decide) (hts _ w_281) (fun _ h9 => h9) rfl d_Md_put_114 ?_
                  refine lv_iload hx hb d_Md_put_117 (lv_at hl 0 rfl) ?_
                  refine rf_zald hx hb hK hP 1 0 rfl rfl hi (by decide) d_Md_put_119 ?_
                  refine lv_if_eq (tgt := 136) hx hb d_Md_put_120 (by decide) (fun c_28 => ?_) (fun c_28 => ?_)
                  · refine lv_iinc (v := (nI (i + 1))) (lv' := [(6, .int (nI (i + 1))), (5, .int (nI k)), (0, .ref y), (1, .int a1), (2, .int a2), (3, .int b1), (4, .int b2)]) hx hb d_Md_put_136 hl (k := 0) rfl (nI_1 i) (by decide) rfl (fun ls hl => ?_)
                    refine lv_goto (tgt := 106) hx hb d_Md_put_139 (by decide) ?_
                    exact hk9 _ ⟨lv_sub hl [0, 1, 2, 3, 4, 5, 6] rfl, lt_s hJ (fun w0 q => by rw [hY.zero hi c_28] at q; cases q)⟩
                  · refine lv_aload_n hx hb d_Md_put_123 rfl (lv_at hl 2 rfl) ?_
                    refine lv_iload hx hb d_Md_put_124 (lv_at hl 1 rfl) ?_
                    refine lv_iload hx hb d_Md_put_126 (lv_at hl 0 rfl) ?_
                    refine vp_callSi (va_Run.run (rf_runV (As := [.int (nI k), .int (nI i)]) (rest := []) S0 ml_Md_52 (c_Md_areApart l D y t0 t1 t2 t3 t4 t5 c0 c1 c2 c3 c4 c5 ma ha ex ey dx dy ab be ri o1 o2 f0 (upd f1 k a1) (upd f2 k a2) (upd f3 k b1) (upd f4 k b2) f5 k i hk hi) hE (va_recv hK hP (ci := 4) (q0 := 0) rfl rfl) hP ⟨rfl, rfl, Nat.le_of_ble_eq_true rfl, Nat.le_of_ble_eq_true rfl⟩ rfl hl.1 rfl (Nat.le_of_ble_eq_true rfl) d_Md_put_128 ⟨Nat.zero_le _, Nat.zero_le _⟩)) (fun r_29 h_30 => ?_)
                    have ha_31 := h_30.to (rf_putx hY hkn hi c_28 (P := k_apart))
                    refine lv_if_ne (tgt := 136) hx hb d_Md_put_131 (by decide) (fun c_32 => ?_) (fun c_32 => ?_)
                    · refine lv_iinc (v := (nI (i + 1))) (lv' := [(6, .int (nI (i + 1))), (5, .int (nI k)), (0, .ref y), (1, .int a1), (2, .int a2), (3, .int b1), (4, .int b2)]) hx hb d_Md_put_136 hl (k := 0) rfl (nI_1 i) (by decide) rfl (fun ls hl => ?_)
                      refine lv_goto (tgt := 106) hx hb d_Md_put_139 (by decide) ?_
                      exact hk9 _ ⟨lv_sub hl [0, 1, 2, 3, 4, 5, 6] rfl, lt_s hJ (fun w0 q => by rw [hY.one hi c_28] at q; cases q; exact (ha_31.t c_32))⟩
                    · refine lv_iconst (v := -1) hx hb d_Md_put_134 (by decide) ?_
                      exact W.iret (v := (-1)) hx hb hr (fun t ht hW => ⟨⟨_, (ma, f0, upd f1 k a1, upd f2 k a2, upd f3 k b1, upd f4 k b2, wl), rfl, ⟨Or.inr ⟨(fun k9 h => h.2.2.2.2.2.2 ⟨i, hi, _, hY.one hi c_28, (ha_31.f c_32)⟩), rfl, rfl, rfl⟩, hY.fit hkn⟩, by rw [ht]; exact hP, hD⟩, hS.F ht⟩) hS.2.2 d_Md_put_135
  · subst er
    refine lv_istore (lv' := [(5, .int (-1)), (0, .ref y), (1, .int a1), (2, .int a2), (3, .int b1), (4, .int b2)]) hx hb d_Md_put_9 hl (by decide) rfl (fun ls hl => ?_)
    refine lv_iload_n hx hb d_Md_put_11 rfl (lv_at hl 2 rfl) ?_
    refine lv_sipush (v := 2000) hx hb d_Md_put_12 (by decide) ?_
    refine vp_callSi (va_Run.run (rf_runS (As := [.int a1, .int 2000]) (rest := []) S0 ml_Md_48 (c_Md_isIn l D (y_t c0 c1 c2 c3 c4 c5) a1 2000) hE trivial ⟨rfl, rfl, Nat.le_of_ble_eq_true rfl, Nat.le_of_ble_eq_true rfl⟩ rfl hl.1 rfl (Nat.le_of_ble_eq_true rfl) d_Md_put_15 ⟨Nat.zero_le _, Nat.zero_le _⟩)) (fun r_33 h_34 => ?_)
    refine lv_if_eq (tgt := 68) hx hb d_Md_put_18 (by decide) (fun c_35 => ?_) (fun c_35 => ?_)
    · refine lv_iconst (v := -1) hx hb d_Md_put_68 (by decide) ?_
      exact W.iret (v := (-1)) hx hb hr (fun t ht hW => ⟨⟨_, (ma, f0, f1, f2, f3, f4, wl), rfl, ⟨Or.inr ⟨fun k9 h => (h_34.f c_35) h.1.1, rfl, rfl, rfl⟩, hY⟩, by rw [ht]; exact hP, hD⟩, hS.F ht⟩) hS.2.2 d_Md_put_69
    · refine lv_iload_n hx hb d_Md_put_21 rfl (lv_at hl 3 rfl) ?_
      refine lv_sipush (v := 2000) hx hb d_Md_put_22 (by decide) ?_
      refine vp_callSi (va_Run.run (rf_runS (As := [.int a2, .int 2000]) (rest := []) S0 ml_Md_48 (c_Md_isIn l D (y_t c0 c1 c2 c3 c4 c5) a2 2000) hE trivial ⟨rfl, rfl, Nat.le_of_ble_eq_true rfl, Nat.le_of_ble_eq_true rfl⟩ rfl hl.1 rfl (Nat.le_of_ble_eq_true rfl) d_Md_put_25 ⟨Nat.zero_le _, Nat.zero_le _⟩)) (fun r_36 h_37 => ?_)
      refine lv_if_eq (tgt := 68) hx hb d_Md_put_28 (by decide) (fun c_38 => ?_) (fun c_38 => ?_)
      · refine lv_iconst (v := -1) hx hb d_Md_put_68 (by decide) ?_
        exact W.iret (v := (-1)) hx hb hr (fun t ht hW => ⟨⟨_, (ma, f0, f1, f2, f3, f4, wl), rfl, ⟨Or.inr ⟨fun k9 h => (h_37.f c_38) h.1.2, rfl, rfl, rfl⟩, hY⟩, by rw [ht]; exact hP, hD⟩, hS.F ht⟩) hS.2.2 d_Md_put_69
      · refine lv_iload_n hx hb d_Md_put_31 rfl (lv_at hl 4 rfl) ?_
        refine lv_sipush (v := 2000) hx hb d_Md_put_32 (by decide) ?_
        refine vp_callSi (va_Run.run (rf_runS (As := [.int b1, .int 2000]) (rest := []) S0 ml_Md_48 (c_Md_isIn l D (y_t c0 c1 c2 c3 c4 c5) b1 2000) hE trivial ⟨rfl, rfl, Nat.le_of_ble_eq_true rfl, Nat.le_of_ble_eq_true rfl⟩ rfl hl.1 rfl (Nat.le_of_ble_eq_true rfl) d_Md_put_35 ⟨Nat.zero_le _, Nat.zero_le _⟩)) (fun r_39 h_40 => ?_)
        refine lv_if_eq (tgt := 68) hx hb d_Md_put_38 (by decide) (fun c_41 => ?_) (fun c_41 => ?_)
        · refine lv_iconst (v := -1) hx hb d_Md_put_68 (by decide) ?_
          exact W.iret (v := (-1)) hx hb hr (fun t ht hW => ⟨⟨_, (ma, f0, f1, f2, f3, f4, wl), rfl, ⟨Or.inr ⟨fun k9 h => (h_40.f c_41) h.2.1.1, rfl, rfl, rfl⟩, hY⟩, by rw [ht]; exact hP, hD⟩, hS.F ht⟩) hS.2.2 d_Md_put_69
        · refine lv_iload hx hb d_Md_put_41 (lv_at hl 5 rfl) ?_
          refine lv_sipush (v := 2000) hx hb d_Md_put_43 (by decide) ?_
          refine vp_callSi (va_Run.run (rf_runS (As := [.int b2, .int 2000]) (rest := []) S0 ml_Md_48 (c_Md_isIn l D (y_t c0 c1 c2 c3 c4 c5) b2 2000) hE trivial ⟨rfl, rfl, Nat.le_of_ble_eq_true rfl, Nat.le_of_ble_eq_true rfl⟩ rfl hl.1 rfl (Nat.le_of_ble_eq_true rfl) d_Md_put_46 ⟨Nat.zero_le _, Nat.zero_le _⟩)) (fun r_42 h_43 => ?_)
          refine lv_if_eq (tgt := 68) hx hb d_Md_put_49 (by decide) (fun c_44 => ?_) (fun c_44 => ?_)
          · refine lv_iconst (v := -1) hx hb d_Md_put_68 (by decide) ?_
            exact W.iret (v := (-1)) hx hb hr (fun t ht hW => ⟨⟨_, (ma, f0, f1, f2, f3, f4, wl), rfl, ⟨Or.inr ⟨fun k9 h => (h_43.f c_44) h.2.1.2, rfl, rfl, rfl⟩, hY⟩, by rw [ht]; exact hP, hD⟩, hS.F ht⟩) hS.2.2 d_Md_put_69
          · refine lv_iload_n hx hb d_Md_put_52 rfl (lv_at hl 2 rfl) ?_
            refine lv_iload_n hx hb d_Md_put_53 rfl (lv_at hl 4 rfl) ?_
            refine lv_icmp_ne (tgt := 63) hx hb d_Md_put_54 (by decide) (fun c_45 => ?_) (fun c_45 => ?_)
            · refine lv_iload hx hb d_Md_put_63 (lv_at hl 0 rfl) ?_
              refine lv_if_ge (tgt := 70) hx hb d_Md_put_65 (by decide) (fun c_46 => absurd c_46 (by decide)) (fun c_46 => ?_)
              refine lv_iconst (v := -1) hx hb d_Md_put_68 (by decide) ?_
              exact W.iret (v := (-1)) hx hb hr (fun t ht hW => ⟨⟨_, (ma, f0, f1, f2, f3, f4, wl), rfl, ⟨Or.inr ⟨fun k9 h => hk1 k9 h.2.2.2.1 h.2.2.2.2.1, rfl, rfl, rfl⟩, hY⟩, by rw [ht]; exact hP, hD⟩, hS.F ht⟩) hS.2.2 d_Md_put_69
            · refine lv_iload_n hx hb d_Md_put_57 rfl (lv_at hl 3 rfl) ?_
              refine lv_iload hx hb d_Md_put_58 (lv_at hl 5 rfl) ?_
              refine lv_icmp_eq (tgt := 68) hx hb d_Md_put_60 (by decide) (fun c_47 => ?_) (fun c_47 => ?_)
              · refine lv_iconst (v := -1) hx hb d_Md_put_68 (by decide) ?_
                exact W.iret (v := (-1)) hx hb hr (fun t ht hW => ⟨⟨_, (ma, f0, f1, f2, f3, f4, wl), rfl, ⟨Or.inr ⟨fun k9 h => h.2.2.1 ⟨c_45, c_47⟩, rfl, rfl, rfl⟩, hY⟩, by rw [ht]; exact hP, hD⟩, hS.F ht⟩) hS.2.2 d_Md_put_69
              · refine lv_iload hx hb d_Md_put_63 (lv_at hl 0 rfl) ?_
                refine lv_if_ge (tgt := 70) hx hb d_Md_put_65 (by decide) (fun c_48 => absurd c_48 (by decide)) (fun c_48 => ?_)
                refine lv_iconst (v := -1) hx hb d_Md_put_68 (by decide) ?_
                exact W.iret (v := (-1)) hx hb hr (fun t ht hW => ⟨⟨_, (ma, f0, f1, f2, f3, f4, wl), rfl, ⟨Or.inr ⟨fun k9 h => hk1 k9 h.2.2.2.1 h.2.2.2.2.1, rfl, rfl, rfl⟩, hY⟩, by rw [ht]; exact hP, hD⟩, hS.F ht⟩) hS.2.2 d_Md_put_69
set_option maxHeartbeats 4000000 in
set_option maxRecDepth 100000 in
theorem c_Md_within (l : Launch) (D : va_G) (y t0 t1 t2 t3 t4 t5 : Nat) (c0 c1 c2 c3 c4 c5 : ClassId) (ma ha ex ey dx dy : Int32) (ab be : Int64) (ri : Int32) (o1 o2 : Int64) (f0 f1 f2 f3 f4 f5 : Nat → Int32) (wl : Nat → Option Q4) (hY : rf_YF wl f0 f1 f2 f3 f4) (nn dd : Int32) (sz : Nat) : Met l y_Md_within (.code y_Md_within b_Md_within 5 (some (.int)) :: BIG) { frames := 2, cells := 0, slots := 0, locals := 80 } (rf_Pc D (y_t c0 c1 c2 c3 c4 c5) [.ref y, .int nn, .int dd] (fun h => h.size = sz ∧ va_P D vwCl (y_7 y t0 t1 t2 t3 t4 t5 c0 c1 c2 c3 c4 c5 ma ha ex ey dx dy ab be ri o1 o2 f0 f1 f2 f3 f4 f5) h ∧ va_D (fun _ => True) (y_7 y t0 t1 t2 t3 t4 t5 c0 c1 c2 c3 c4 c5 ma ha ex ey dx dy ab be ri o1 o2 f0 f1 f2 f3 f4 f5))) (va_Qi (S := Int64 × Int64 × Int32 × Int64 × Int64) (fun r u => (¬ ha = 0 ∧ m_btw nn 0 1000000 ∧ m_btw dd 1 1000000 ∧ ∃ c, r = nI c ∧ g_cnt (fun k => rf_kmt wl (ex, ey, dx, dy) k ∧ ∃ w, wl k = some w ∧ k_up w (ex, ey, dx, dy) * dd.toInt64 ≤ nn.toInt64 * k_dn w (ex, ey, dx, dy)) (fun j => j) 64 c) ∨ ((ha = 0 ∨ ¬ m_btw nn 0 1000000 ∨ ¬ m_btw dd 1 1000000) ∧ r = -1)) (fun u t => va_P D vwCl (y_7 y t0 t1 t2 t3 t4 t5 c0 c1 c2 c3 c4 c5 ma ha ex ey dx dy u.1 u.2.1 u.2.2.1 u.2.2.2.1 u.2.2.2.2 f0 f1 f2 f3 f4 f5) t.heap ∧ va_D (va_A (y_7 y t0 t1 t2 t3 t4 t5 c0 c1 c2 c3 c4 c5 ma ha ex ey dx dy ab be ri o1 o2 f0 f1 f2 f3 f4 f5) sz) (y_7 y t0 t1 t2 t3 t4 t5 c0 c1 c2 c3 c4 c5 ma ha ex ey dx dy u.1 u.2.1 u.2.2.1 u.2.2.2.1 u.2.2.2.2 f0 f1 f2 f3 f4 f5)) (va_A (y_7 y t0 t1 t2 t3 t4 t5 c0 c1 c2 c3 c4 c5 ma ha ex ey dx dy ab be ri o1 o2 f0 f1 f2 f3 f4 f5) sz)) 0 0 (va_A (y_7 y t0 t1 t2 t3 t4 t5 c0 c1 c2 c3 c4 c5 ma ha ex ey dx dy ab be ri o1 o2 f0 f1 f2 f3 f4 f5) sz) := by
  refine Met.ofW (cc := b_Md_within) (maxL := 5) (ret := (some (.int))) (by decide) rfl ?_
  intro p e s m args below meth c s₁ B hml hv
  obtain ⟨rfl, hE, hP⟩ := hv
  have hx := B.exec
  have hb := B.bytes
  have hr := B.returns
  have hts : ∀ w ∈ BIG, w.before [.ref y, .int nn, .int dd].toArray s = true := fun w h => atoms_spec (ws := .code y_Md_within b_Md_within 5 (some (.int)) :: BIG) B.pre w (List.mem_cons_of_mem _ h)
  have hown : s.vm.findClass "RayFieldModel" = some m.cls := findClass_of_methodNamed B.named
  have hlocks := B.notSynchronized
  have hK := hE.2
  have S0 : CallFix p m c b_Md_within 5 s [.ref y, .int nn, .int dd].toArray BIG "RayFieldModel" := ⟨hx, hb, hml, hown, hts⟩
  have hl := lv_entry ([.ref y, .int nn, .int dd]) (n := 5) (Nat.le_of_ble_eq_true rfl)
  rw [lg_entry_eq]
  generalize (lg_sl ([.ref y, .int nn, .int dd]) ++ List.replicate (5 - (lg_sl ([.ref y, .int nn, .int dd])).length) Slot.unset).toArray = ls at hl ⊢
  have hl : lv_has ls 5 [(0, .ref y), (1, .int nn), (2, .int dd)] := hl
  obtain ⟨hsz, hP, hD0⟩ := hP
  subst hsz
  have hD := hD0.self (sz := s.heap.size)
  generalize hAe : va_A (y_7 y t0 t1 t2 t3 t4 t5 c0 c1 c2 c3 c4 c5 ma ha ex ey dx dy ab be ri o1 o2 f0 f1 f2 f3 f4 f5) s.heap.size = A at hD ⊢
  have hA : ∀ q : Nat, s.heap.size ≤ q → A q := fun q h => by rw [← hAe]; exact Or.inr h
  obtain ⟨H, hH⟩ : ∃ H : Heap, H = s.heap := ⟨_, rfl⟩
  refine rf_heap hH ?_
  have hS : va_S A s.heap H [] := by rw [hH]; exact va_S.rf
  have hP : va_P D vwCl (y_7 y t0 t1 t2 t3 t4 t5 c0 c1 c2 c3 c4 c5 ma ha ex ey dx dy ab be ri o1 o2 f0 f1 f2 f3 f4 f5) H := by rw [hH]; exact hP
  refine lv_aload_n hx hb d_Md_within_0 rfl (lv_at hl 0 rfl) ?_
  refine lv_iconst (v := 0) hx hb d_Md_within_1 (by decide) ?_
  refine va_put (D := D) (ci := 4) (v := .int 0) (ty := .int) (C := "RayFieldModel") (T := F_Md) (N := 18) hx hb hts in_Md t_Md tok_Md nn_Md hown hK hP hD hS 0 rfl rfl 0 (by decide) (hts _ w_280) (fun _ h9 => h9) rfl (by decide +kernel) rfl rfl (Nat.le_of_ble_eq_true rfl) d_Md_within_2 (fun H locs hP hD hS => ?_)
  have hP : va_P D vwCl (y_7 y t0 t1 t2 t3 t4 t5 c0 c1 c2 c3 c4 c5 ma ha ex ey dx dy ab be ri o1 o2 f0 f1 f2 f3 f4 f5) H := hP
  have hD : va_D A (y_7 y t0 t1 t2 t3 t4 t5 c0 c1 c2 c3 c4 c5 ma ha ex ey dx dy ab be ri o1 o2 f0 f1 f2 f3 f4 f5) := hD
  refine lv_aload_n hx hb d_Md_within_5 rfl (lv_at hl 0 rfl) ?_
  refine va_get (D := D) (ci := 4) (v := .int ha) (C := "RayFieldModel") (T := F_Md) (N := 18) hx hb hts in_Md hown hK hP 0 rfl rfl 7 (by decide) (hts _ w_287) (fun _ h9 => h9) rfl d_Md_within_6 ?_
  refine lv_if_eq (tgt := 33) hx hb d_Md_within_9 (by decide) (fun c_1 => ?_) (fun c_1 => ?_)
  · refine lv_iconst (v := -1) hx hb d_Md_within_33 (by decide) ?_
    exact W.iret (v := (-1)) hx hb hr (fun t ht hW => ⟨⟨_, (ab, be, ri, o1, o2), rfl, (Or.inr ⟨Or.inl c_1, rfl⟩), by rw [ht]; exact hP, hD⟩, hS.F ht⟩) hS.2.2 d_Md_within_34
  · refine lv_iload_n hx hb d_Md_within_12 rfl (lv_at hl 1 rfl) ?_
    refine lv_if_lt (tgt := 33) hx hb d_Md_within_13 (by decide) (fun c_2 => ?_) (fun c_2 => ?_)
    · refine lv_iconst (v := -1) hx hb d_Md_within_33 (by decide) ?_
      exact W.iret (v := (-1)) hx hb hr (fun t ht hW => ⟨⟨_, (ab, be, ri, o1, o2), rfl, (Or.inr ⟨Or.inr (Or.inl (fun q => absurd q.1 (Int32.not_le.mpr c_2))), rfl⟩), by rw [ht]; exact hP, hD⟩, hS.F ht⟩) hS.2.2 d_Md_within_34
    · refine lv_iload_n hx hb d_Md_within_16 rfl (lv_at hl 1 rfl) ?_
      refine lv_ldc (v := 1000000) hx hb hown (hts _ w_415) d_Md_within_17 ?_
      refine lv_icmp_gt (tgt := 33) hx hb d_Md_within_19 (by decide) (fun c_3 => ?_) (fun c_3 => ?_)
      · refine lv_iconst (v := -1) hx hb d_Md_within_33 (by decide) ?_
        exact W.iret (v := (-1)) hx hb hr (fun t ht hW => ⟨⟨_, (ab, be, ri, o1, o2), rfl, (Or.inr ⟨Or.inr (Or.inl (fun q => (Int32.not_le.mpr c_3) q.2)), rfl⟩), by rw [ht]; exact hP, hD⟩, hS.F ht⟩) hS.2.2 d_Md_within_34
      · refine lv_iload_n hx hb d_Md_within_22 rfl (lv_at hl 2 rfl) ?_
        refine lv_iconst (v := 1) hx hb d_Md_within_23 (by decide) ?_
        refine lv_icmp_lt (tgt := 33) hx hb d_Md_within_24 (by decide) (fun c_4 => ?_) (fun c_4 => ?_)
        · refine lv_iconst (v := -1) hx hb d_Md_within_33 (by decide) ?_
          exact W.iret (v := (-1)) hx hb hr (fun t ht hW => ⟨⟨_, (ab, be, ri, o1, o2), rfl, (Or.inr ⟨Or.inr (Or.inr (fun q => (Int32.not_le.mpr c_4) q.1)), rfl⟩), by rw [ht]; exact hP, hD⟩, hS.F ht⟩) hS.2.2 d_Md_within_34
        · refine lv_iload_n hx hb d_Md_within_27 rfl (lv_at hl 2 rfl) ?_
          refine lv_ldc (v := 1000000) hx hb hown (hts _ w_415) d_Md_within_28 ?_
          refine lv_icmp_le (tgt := 35) hx hb d_Md_within_30 (by decide) (fun c_5 => ?_) (fun c_5 => ?_)
          · refine lv_iconst (v := 0) hx hb d_Md_within_35 (by decide) ?_
            refine rf_topi nI_0.symm ?_
            refine lv_istore_n (lv' := [(3, .int (nI 0)), (0, .ref y), (1, .int nn), (2, .int dd)]) hx hb d_Md_within_36 rfl hl (by decide) rfl (fun ls hl => ?_)
            refine lv_iconst (v := 0) hx hb d_Md_within_37 (by decide) ?_
            refine rf_topi nI_0.symm ?_
            refine lv_istore (lv' := [(4, .int (nI 0)), (3, .int (nI 0)), (0, .ref y), (1, .int nn), (2, .int dd)]) hx hb d_Md_within_38 hl (by decide) rfl (fun ls hl => ?_)
            refine rf_loop 40 64 (fun i ls H locs k1 k2 => ∃ (cn : Nat) (ab1 be1 : Int64) (ri1 : Int32) (p1 p2 : Int64), lv_has ls 5 [(3, .int (nI cn)), (4, .int (nI i)), (0, .ref y), (1, .int nn), (2, .int dd)] ∧ va_P D vwCl (y_7 y t0 t1 t2 t3 t4 t5 c0 c1 c2 c3 c4 c5 ma ha ex ey dx dy ab1 be1 ri1 p1 p2 f0 f1 f2 f3 f4 f5) H ∧ va_D A (y_7 y t0 t1 t2 t3 t4 t5 c0 c1 c2 c3 c4 c5 ma ha ex ey dx dy ab1 be1 ri1 p1 p2 f0 f1 f2 f3 f4 f5) ∧ va_S A s.heap H locs ∧ g_cnt (fun k => rf_kmt wl (ex, ey, dx, dy) k ∧ ∃ w, wl k = some w ∧ k_up w (ex, ey, dx, dy) * dd.toInt64 ≤ nn.toInt64 * k_dn w (ex, ey, dx, dy)) (fun j => j) i cn ∧ k1 = 0 ∧ k2 = 0) (fun ls H locs k1 k2 hI => ?_) (fun i ls H locs k1 k2 hi hI hk => ?_) 0 (Nat.zero_le _) ⟨0, ab, be, ri, o1, o2, lv_sub hl [1, 0, 2, 3, 4] rfl, hP, hD, hS, rfl, rfl, rfl⟩
            · obtain ⟨cn, ab1, be1, ri1, p1, p2, hl, hP, hD, hS, hJ, hk1, hk2⟩ := hI
              subst k1
              subst k2
              refine lv_iload hx hb d_Md_within_40 (lv_at hl 1 rfl) ?_
              refine lv_bipush (v := 64) hx hb d_Md_within_42 (by decide) ?_
              refine rf_topi rfl ?_
              refine lv_icmp_ge (tgt := 98) hx hb d_Md_within_44 (by decide) (fun c_6 => ?_) (fun c_6 => absurd (nI_le (Nat.le_refl _) (by decide)) c_6)
              refine lv_iload_n hx hb d_Md_within_98 rfl (lv_at hl 0 rfl) ?_
              exact W.iret (v := nI cn) hx hb hr (fun t ht hW => ⟨⟨_, (ab1, be1, ri1, p1, p2), rfl, (Or.inl ⟨c_1, ⟨Int32.not_lt.mp c_2, (Int32.not_lt.mp c_3)⟩, ⟨(Int32.not_lt.mp c_4), c_5⟩, cn, rfl, hJ⟩), by rw [ht]; exact hP, hD⟩, hS.F ht⟩) hS.2.2 d_Md_within_99
            · obtain ⟨cn, ab1, be1, ri1, p1, p2, hl, hP, hD, hS, hJ, hk1, hk2⟩ := hI
              subst k1
              subst k2
              refine lv_iload hx hb d_Md_within_40 (lv_at hl 1 rfl) ?_
              refine lv_bipush (v := 64) hx hb d_Md_within_42 (by decide) ?_
              refine rf_topi rfl ?_
              refine lv_icmp_ge (tgt := 98) hx hb d_Md_within_44 (by decide) (fun c_7 => absurd c_7 (nI_ge hi (by decide))) (fun c_7 => ?_)
              refine lv_aload_n hx hb d_Md_within_47 rfl (lv_at hl 2 rfl) ?_
              refine va_get (D := D) (ci := 4) (v := .ref t0) (C := "RayFieldModel") (T := F_Md) (N := 18) hx hb hts in_Md hown hK hP 0 rfl rfl 1 (by decide) (hts _ w_281) (fun _ h9 => h9) rfl d_Md_within_48 ?_
              refine lv_iload hx hb d_Md_within_51 (lv_at hl 1 rfl) ?_
              refine rf_zald hx hb hK hP 1 0 rfl rfl hi (by decide) d_Md_within_53 ?_
              refine lv_if_eq (tgt := 92) hx hb d_Md_within_54 (by decide) (fun c_8 => ?_) (fun c_8 => ?_)
              · refine lv_iinc (v := (nI (i + 1))) (lv' := [(4, .int (nI (i + 1))), (3, .int (nI cn)), (0, .ref y), (1, .int nn), (2, .int dd)]) hx hb d_Md_within_92 hl (k := 1) rfl (nI_1 i) (by decide) rfl (fun ls hl => ?_)
                refine lv_goto (tgt := 40) hx hb d_Md_within_95 (by decide) ?_
                exact hk _ _ _ _ _ ⟨cn, ab1, be1, ri1, p1, p2, lv_sub hl [1, 0, 2, 3, 4] rfl, hP, hD, hS, Or.inr ⟨fun q => rf_kmt.no0 (hY.zero hi c_8) q.1, hJ⟩, rfl, rfl⟩
              · refine lv_aload_n hx hb d_Md_within_57 rfl (lv_at hl 2 rfl) ?_
                refine lv_iload hx hb d_Md_within_58 (lv_at hl 1 rfl) ?_
                have hFc := rf_freeW hD hS hA
                refine va_calli (rf_runV (As := [.int (nI i)]) (rest := []) S0 ml_Md_94 (c_Md_meets l D y t0 t1 t2 t3 t4 t5 c0 c1 c2 c3 c4 c5 ma ha ex ey dx dy ab1 be1 ri1 p1 p2 f0 f1 f2 f3 f4 f5 i hi H.size) hE (va_recv hK hP (ci := 4) (q0 := 0) rfl rfl) ⟨rfl, hP, hD.weaken (fun _ _ _ _ => trivial)⟩ ⟨rfl, rfl, Nat.le_of_ble_eq_true rfl, Nat.le_of_ble_eq_true rfl⟩ rfl hl.1 rfl (Nat.le_of_ble_eq_true rfl) d_Md_within_60 ⟨Nat.zero_le _, Nat.zero_le _⟩) hS (fun q _ h => hFc q h) hFc (fun r_9 u t H1 locs ht hvm hm_10 hB hz1 hk1 hS => ?_)
                obtain ⟨hP, hD1⟩ := hB
                rw [ht] at hP
                have hD := hD1.weaken (fun k q _ h => hFc q.1 h)
                generalize H1 = H at hP hS ⊢
                have hP : va_P D vwCl (y_7 y t0 t1 t2 t3 t4 t5 c0 c1 c2 c3 c4 c5 ma ha ex ey dx dy (k_up (f1 i, f2 i, f3 i, f4 i) (ex, ey, dx, dy)) (k_dn (f1 i, f2 i, f3 i, f4 i) (ex, ey, dx, dy)) (k_ri (f1 i, f2 i, f3 i, f4 i) (ex, ey, dx, dy)) (m_a (f1 i, f2 i, f3 i, f4 i) (ex, ey, dx, dy)) (m_b (f1 i, f2 i, f3 i, f4 i) (ex, ey, dx, dy)) f0 f1 f2 f3 f4 f5) H := hP
                have hD : va_D A (y_7 y t0 t1 t2 t3 t4 t5 c0 c1 c2 c3 c4 c5 ma ha ex ey dx dy (k_up (f1 i, f2 i, f3 i, f4 i) (ex, ey, dx, dy)) (k_dn (f1 i, f2 i, f3 i, f4 i) (ex, ey, dx, dy)) (k_ri (f1 i, f2 i, f3 i, f4 i) (ex, ey, dx, dy)) (m_a (f1 i, f2 i, f3 i, f4 i) (ex, ey, dx, dy)) (m_b (f1 i, f2 i, f3 i, f4 i) (ex, ey, dx, dy)) f0 f1 f2 f3 f4 f5) := hD
                refine lv_if_eq (tgt := 92) hx hb d_Md_within_63 (by decide) (fun c_11 => ?_) (fun c_11 => ?_)
                · refine lv_iinc (v := (nI (i + 1))) (lv' := [(4, .int (nI (i + 1))), (3, .int (nI cn)), (0, .ref y), (1, .int nn), (2, .int dd)]) hx hb d_Md_within_92 hl (k := 1) rfl (nI_1 i) (by decide) rfl (fun ls hl => ?_)
                  refine lv_goto (tgt := 40) hx hb d_Md_within_95 (by decide) ?_
                  exact hk _ _ _ _ _ ⟨cn, k_up (f1 i, f2 i, f3 i, f4 i) (ex, ey, dx, dy), k_dn (f1 i, f2 i, f3 i, f4 i) (ex, ey, dx, dy), k_ri (f1 i, f2 i, f3 i, f4 i) (ex, ey, dx, dy), m_a (f1 i, f2 i, f3 i, f4 i) (ex, ey, dx, dy), m_b (f1 i, f2 i, f3 i, f4 i) (ex, ey, dx, dy), lv_sub hl [1, 0, 2, 3, 4] rfl, hP, hD, hS, Or.inr ⟨fun q => rf_kmt.no (hY.one hi c_8) (hm_10.f c_11) q.1, hJ⟩, rfl, rfl⟩
                · refine lv_iload_n hx hb d_Md_within_66 rfl (lv_at hl 0 rfl) ?_
                  refine lv_aload_n hx hb d_Md_within_67 rfl (lv_at hl 2 rfl) ?_
                  refine va_get (D := D) (ci := 4) (v := .long (k_up (f1 i, f2 i, f3 i, f4 i) (ex, ey, dx, dy))) (C := "RayFieldModel") (T := F_Md) (N := 18) hx hb hts in_Md hown hK hP 0 rfl rfl 12 (by decide) (hts _ w_292) (fun _ h9 => h9) rfl d_Md_within_68 ?_
                  refine lv_iload_n hx hb d_Md_within_71 rfl (lv_at hl 4 rfl) ?_
                  refine lv_i2l hx hb d_Md_within_72 rfl ?_
                  refine lv_lmul hx hb d_Md_within_73 ?_
                  refine lv_iload_n hx hb d_Md_within_74 rfl (lv_at hl 3 rfl) ?_
                  refine lv_i2l hx hb d_Md_within_75 rfl ?_
                  refine lv_aload_n hx hb d_Md_within_76 rfl (lv_at hl 2 rfl) ?_
                  refine va_get (D := D) (ci := 4) (v := .long (k_dn (f1 i, f2 i, f3 i, f4 i) (ex, ey, dx, dy))) (C := "RayFieldModel") (T := F_Md) (N := 18) hx hb hts in_Md hown hK hP 0 rfl rfl 13 (by decide) (hts _ w_293) (fun _ h9 => h9) rfl d_Md_within_77 ?_
                  refine lv_lmul hx hb d_Md_within_80 ?_
                  refine rf_lcmp_gt (tgt := 89) hx hb d_Md_within_81 d_Md_within_82 (by decide) (fun c_12 => ?_) (fun c_12 => ?_)
                  · refine lv_iconst (v := 0) hx hb d_Md_within_89 (by decide) ?_
                    refine lv_iadd hx hb d_Md_within_90 ?_
                    refine rf_topi (Int32.add_zero _) ?_
                    refine lv_istore_n (lv' := [(3, .int (nI cn)), (4, .int (nI i)), (0, .ref y), (1, .int nn), (2, .int dd)]) hx hb d_Md_within_91 rfl hl (by decide) rfl (fun ls hl => ?_)
                    refine lv_iinc (v := (nI (i + 1))) (lv' := [(4, .int (nI (i + 1))), (3, .int (nI cn)), (0, .ref y), (1, .int nn), (2, .int dd)]) hx hb d_Md_within_92 hl (k := 1) rfl (nI_1 i) (by decide) rfl (fun ls hl => ?_)
                    refine lv_goto (tgt := 40) hx hb d_Md_within_95 (by decide) ?_
                    exact hk _ _ _ _ _ ⟨cn, k_up (f1 i, f2 i, f3 i, f4 i) (ex, ey, dx, dy), k_dn (f1 i, f2 i, f3 i, f4 i) (ex, ey, dx, dy), k_ri (f1 i, f2 i, f3 i, f4 i) (ex, ey, dx, dy), m_a (f1 i, f2 i, f3 i, f4 i) (ex, ey, dx, dy), m_b (f1 i, f2 i, f3 i, f4 i) (ex, ey, dx, dy), lv_sub hl [1, 0, 2, 3, 4] rfl, hP, hD, hS, Or.inr ⟨fun ⟨_, w0, q1, q2⟩ => by rw [hY.one hi c_8] at q1; cases q1; exact (Int64.not_le.mpr c_12) q2, hJ⟩, rfl, rfl⟩
                  · refine lv_iconst (v := 1) hx hb d_Md_within_85 (by decide) ?_
                    refine lv_goto (tgt := 90) hx hb d_Md_within_86 (by decide) ?_
                    refine lv_iadd hx hb d_Md_within_90 ?_
                    refine rf_topi (nI_1 cn) ?_
                    refine lv_istore_n (lv' := [(3, .int (nI (cn + 1))), (4, .int (nI i)), (0, .ref y), (1, .int nn), (2, .int dd)]) hx hb d_Md_within_91 rfl hl (by decide) rfl (fun ls hl => ?_)
                    refine lv_iinc (v := (nI (i + 1))) (lv' := [(4, .int (nI (i + 1))), (3, .int (nI (cn + 1))), (0, .ref y), (1, .int nn), (2, .int dd)]) hx hb d_Md_within_92 hl (k := 1) rfl (nI_1 i) (by decide) rfl (fun ls hl => ?_)
                    refine lv_goto (tgt := 40) hx hb d_Md_within_95 (by decide) ?_
                    exact hk _ _ _ _ _ ⟨(cn + 1), k_up (f1 i, f2 i, f3 i, f4 i) (ex, ey, dx, dy), k_dn (f1 i, f2 i, f3 i, f4 i) (ex, ey, dx, dy), k_ri (f1 i, f2 i, f3 i, f4 i) (ex, ey, dx, dy), m_a (f1 i, f2 i, f3 i, f4 i) (ex, ey, dx, dy), m_b (f1 i, f2 i, f3 i, f4 i) (ex, ey, dx, dy), lv_sub hl [1, 0, 2, 3, 4] rfl, hP, hD, hS, Or.inl ⟨⟨⟨_, hY.one hi c_8, (hm_10.t c_11)⟩, _, hY.one hi c_8, (Int64.not_lt.mp c_12)⟩, cn, hJ, rfl⟩, rfl, rfl⟩
          · refine lv_iconst (v := -1) hx hb d_Md_within_33 (by decide) ?_
            exact W.iret (v := (-1)) hx hb hr (fun t ht hW => ⟨⟨_, (ab, be, ri, o1, o2), rfl, (Or.inr ⟨Or.inr (Or.inr (fun q => c_5 q.2)), rfl⟩), by rw [ht]; exact hP, hD⟩, hS.F ht⟩) hS.2.2 d_Md_within_34
