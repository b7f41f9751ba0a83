set_option maxHeartbeats 4000000 in
set_option maxRecDepth 100000 in
theorem c_Md_gather (l : Launch) (D : va_G) (y t0 t1 t2 t3 t4 t5 : Nat) (c0 c1 c2 c3 c4 c5 : ClassId) (ma ha ex ey dx dy : Int32) (ab be : Int64) (ri : Int32) (o1 o2 : Int64) (f0 f1 f2 f3 f4 f5 : Nat → Int32) (wl : Nat → Option Q4) (hY : rf_YF wl f0 f1 f2 f3 f4) (sz : Nat) : Met l y_Md_gather (.code y_Md_gather b_Md_gather 4 (some (.int)) :: BIG) { frames := 3, cells := 0, slots := 0, locals := 120 } (rf_Pc D (y_t c0 c1 c2 c3 c4 c5) [.ref y] (fun h => h.size = sz ∧ va_P D vwCl (y_7 y t0 t1 t2 t3 t4 t5 c0 c1 c2 c3 c4 c5 ma ha ex ey dx dy ab be ri o1 o2 f0 f1 f2 f3 f4 f5) h ∧ va_D (fun _ => True) (y_7 y t0 t1 t2 t3 t4 t5 c0 c1 c2 c3 c4 c5 ma ha ex ey dx dy ab be ri o1 o2 f0 f1 f2 f3 f4 f5))) (va_Qi (S := Nat × (Nat → Nat) × Int64 × Int64 × Int32 × Int64 × Int64 × (Nat → Int32)) (fun r u => r = nI u.1 ∧ u.1 ≤ 64 ∧ (ha = 0 → u.1 = 0) ∧ (¬ ha = 0 → g_ok (rf_kmt wl (ex, ey, dx, dy)) (rf_knr wl (ex, ey, dx, dy)) 64 u.1 u.2.1) ∧ (∀ j, j < u.1 → u.2.2.2.2.2.2.2 j = nI (u.2.1 j))) (fun u t => va_P D vwCl (y_7 y t0 t1 t2 t3 t4 t5 c0 c1 c2 c3 c4 c5 ma ha ex ey dx dy u.2.2.1 u.2.2.2.1 u.2.2.2.2.1 u.2.2.2.2.2.1 u.2.2.2.2.2.2.1 f0 f1 f2 f3 f4 u.2.2.2.2.2.2.2) t.heap ∧ va_D (va_A (y_7 y t0 t1 t2 t3 t4 t5 c0 c1 c2 c3 c4 c5 ma ha ex ey dx dy ab be ri o1 o2 f0 f1 f2 f3 f4 f5) sz) (y_7 y t0 t1 t2 t3 t4 t5 c0 c1 c2 c3 c4 c5 ma ha ex ey dx dy u.2.2.1 u.2.2.2.1 u.2.2.2.2.1 u.2.2.2.2.2.1 u.2.2.2.2.2.2.1 f0 f1 f2 f3 f4 u.2.2.2.2.2.2.2)) (va_A (y_7 y t0 t1 t2 t3 t4 t5 c0 c1 c2 c3 c4 c5 ma ha ex ey dx dy ab be ri o1 o2 f0 f1 f2 f3 f4 f5) sz)) 0 0 (va_A (y_7 y t0 t1 t2 t3 t4 t5 c0 c1 c2 c3 c4 c5 ma ha ex ey dx dy ab be ri o1 o2 f0 f1 f2 f3 f4 f5) sz) := by
  refine Met.ofW (cc := b_Md_gather) (maxL := 4) (ret := (some (.int))) (by decide) rfl ?_
  intro p e s m args below meth c s₁ B hml hv
  obtain ⟨rfl, hE, hP⟩ := hv
  have hx := B.exec
  have hb := B.bytes
  have hr := B.returns
  have hts : ∀ w ∈ BIG, w.before [.ref y].toArray s = true := fun w h => atoms_spec (ws := .code y_Md_gather b_Md_gather 4 (some (.int)) :: BIG) B.pre w (List.mem_cons_of_mem _ h)
  have hown : s.vm.findClass "RayFieldModel" = some m.cls := findClass_of_methodNamed B.named
  have hlocks := B.notSynchronized
  have hK := hE.2
  have S0 : CallFix p m c b_Md_gather 4 s [.ref y].toArray BIG "RayFieldModel" := ⟨hx, hb, hml, hown, hts⟩
  have hl := lv_entry ([.ref y]) (n := 4) (Nat.le_of_ble_eq_true rfl)
  rw [lg_entry_eq]
  generalize (lg_sl ([.ref y]) ++ List.replicate (4 - (lg_sl ([.ref y])).length) Slot.unset).toArray = ls at hl ⊢
  have hl : lv_has ls 4 [(0, .ref y)] := hl
  obtain ⟨hsz, hP, hD0⟩ := hP
  subst hsz
  have hD := hD0.self (sz := s.heap.size)
  generalize hAe : va_A (y_7 y t0 t1 t2 t3 t4 t5 c0 c1 c2 c3 c4 c5 ma ha ex ey dx dy ab be ri o1 o2 f0 f1 f2 f3 f4 f5) s.heap.size = A at hD ⊢
  have hA : ∀ q : Nat, s.heap.size ≤ q → A q := fun q h => by rw [← hAe]; exact Or.inr h
  obtain ⟨H, hH⟩ : ∃ H : Heap, H = s.heap := ⟨_, rfl⟩
  refine rf_heap hH ?_
  have hS : va_S A s.heap H [] := by rw [hH]; exact va_S.rf
  have hP : va_P D vwCl (y_7 y t0 t1 t2 t3 t4 t5 c0 c1 c2 c3 c4 c5 ma ha ex ey dx dy ab be ri o1 o2 f0 f1 f2 f3 f4 f5) H := by rw [hH]; exact hP
  refine lv_iconst (v := 0) hx hb d_Md_gather_0 (by decide) ?_
  refine rf_topi nI_0.symm ?_
  refine lv_istore_n (lv' := [(1, .int (nI 0)), (0, .ref y)]) hx hb d_Md_gather_1 rfl hl (by decide) rfl (fun ls hl => ?_)
  refine lv_iconst (v := 0) hx hb d_Md_gather_2 (by decide) ?_
  refine rf_topi nI_0.symm ?_
  refine lv_istore_n (lv' := [(2, .int (nI 0)), (1, .int (nI 0)), (0, .ref y)]) hx hb d_Md_gather_3 rfl hl (by decide) rfl (fun ls hl => ?_)
  by_cases hh : ha = 0
  · refine lv_iload_n hx hb d_Md_gather_4 rfl (lv_at hl 0 rfl) ?_
    refine lv_bipush (v := 64) hx hb d_Md_gather_5 (by decide) ?_
    refine rf_topi rfl ?_
    refine lv_icmp_ge (tgt := 92) hx hb d_Md_gather_7 (by decide) (fun c_1 => absurd c_1 (nI_ge (show 0 < 64 by decide) (by decide))) (fun c_1 => ?_)
    refine lv_aload_n hx hb d_Md_gather_10 rfl (lv_at hl 2 rfl) ?_
    refine va_get (D := D) (ci := 4) (v := .int ha) (C := "RayFieldModel") (T := F_Md) (N := 18) hx hb hts in_Md hown hK hP 0 rfl rfl 7 (by decide) (hts _ w_287) (fun _ h9 => h9) rfl d_Md_gather_11 ?_
    refine lv_if_eq (tgt := 92) hx hb d_Md_gather_14 (by decide) (fun c_2 => ?_) (fun c_2 => absurd hh c_2)
    refine lv_iload_n hx hb d_Md_gather_92 rfl (lv_at hl 1 rfl) ?_
    exact W.iret (v := nI 0) hx hb hr (fun t ht hW => ⟨⟨_, (0, fun _ => 0, ab, be, ri, o1, o2, f5), rfl, ⟨rfl, Nat.zero_le _, fun _ => rfl, fun h => absurd hh h, fun j hj => absurd hj (Nat.not_lt_zero _)⟩, by rw [ht]; exact hP, hD⟩, hS.F ht⟩) hS.2.2 d_Md_gather_93
  · refine rf_loop 4 64 (fun i ls H locs k1 k2 => ∃ (n : Nat) (g : Nat → Nat) (ab1 be1 : Int64) (ri1 : Int32) (p1 p2 : Int64) (f51 : Nat → Int32), lv_has ls 4 [(1, .int (nI n)), (2, .int (nI i)), (0, .ref y)] ∧ va_P D vwCl (y_7 y t0 t1 t2 t3 t4 t5 c0 c1 c2 c3 c4 c5 ma ha ex ey dx dy ab1 be1 ri1 p1 p2 f0 f1 f2 f3 f4 f51) H ∧ va_D A (y_7 y t0 t1 t2 t3 t4 t5 c0 c1 c2 c3 c4 c5 ma ha ex ey dx dy ab1 be1 ri1 p1 p2 f0 f1 f2 f3 f4 f51) ∧ va_S A s.heap H locs ∧ g_ok (rf_kmt wl (ex, ey, dx, dy)) (rf_knr wl (ex, ey, dx, dy)) i n g ∧ (∀ j, j < n → f51 j = nI (g j)) ∧ k1 = 0 ∧ k2 = 0) (fun ls H locs k1 k2 hI => ?_) (fun i ls H locs k1 k2 hi hI hk => ?_) 0 (Nat.zero_le _) ⟨0, fun _ => 0, ab, be, ri, o1, o2, f5, lv_sub hl [1, 0, 2] rfl, hP, hD, hS, rfl, fun j hj => absurd hj (Nat.not_lt_zero _), rfl, rfl⟩
    · obtain ⟨n, g, ab1, be1, ri1, p1, p2, f51, hl, hP, hD, hS, hg, hrow, hk1, hk2⟩ := hI
      subst k1
      subst k2
      have hnle := g_ok_le hg
      refine lv_iload_n hx hb d_Md_gather_4 rfl (lv_at hl 1 rfl) ?_
      refine lv_bipush (v := 64) hx hb d_Md_gather_5 (by decide) ?_
      refine rf_topi rfl ?_
      refine lv_icmp_ge (tgt := 92) hx hb d_Md_gather_7 (by decide) (fun c_3 => ?_) (fun c_3 => absurd (nI_le (Nat.le_refl _) (by decide)) c_3)
      refine lv_iload_n hx hb d_Md_gather_92 rfl (lv_at hl 0 rfl) ?_
      exact W.iret (v := nI n) hx hb hr (fun t ht hW => ⟨⟨_, (n, g, ab1, be1, ri1, p1, p2, f51), rfl, ⟨rfl, hnle, fun h => absurd h hh, fun _ => hg, hrow⟩, by rw [ht]; exact hP, hD⟩, hS.F ht⟩) hS.2.2 d_Md_gather_93
    · obtain ⟨n, g, ab1, be1, ri1, p1, p2, f51, hl, hP, hD, hS, hg, hrow, hk1, hk2⟩ := hI
      subst k1
      subst k2
      have hnle := g_ok_le hg
      refine lv_iload_n hx hb d_Md_gather_4 rfl (lv_at hl 1 rfl) ?_
      refine lv_bipush (v := 64) hx hb d_Md_gather_5 (by decide) ?_
      refine rf_topi rfl ?_
      refine lv_icmp_ge (tgt := 92) hx hb d_Md_gather_7 (by decide) (fun c_4 => absurd c_4 (nI_ge hi (by decide))) (fun c_4 => ?_)
      refine lv_aload_n hx hb d_Md_gather_10 rfl (lv_at hl 2 rfl) ?_
      refine va_get (D := D) (ci := 4) (v := .int ha) (C := "RayFieldModel") (T := F_Md) (N := 18) hx hb hts in_Md hown hK hP 0 rfl rfl 7 (by decide) (hts _ w_287) (fun _ h9 => h9) rfl d_Md_gather_11 ?_
      refine lv_if_eq (tgt := 92) hx hb d_Md_gather_14 (by decide) (fun c_5 => absurd c_5 hh) (fun c_5 => ?_)
      refine lv_aload_n hx hb d_Md_gather_17 rfl (lv_at hl 2 rfl) ?_
      refine va_get (D := D) (ci := 4) (v := .ref t0) (C := "RayFieldModel") (T := F_Md) (N := 18) hx hb hts in_Md hown hK hP 0 rfl rfl 1 (by decide) (hts _ w_281) (fun _ h9 => h9) rfl d_Md_gather_18 ?_
      refine lv_iload_n hx hb d_Md_gather_21 rfl (lv_at hl 1 rfl) ?_
      refine rf_zald hx hb hK hP 1 0 rfl rfl hi (by decide) d_Md_gather_22 ?_
      refine lv_if_eq (tgt := 86) hx hb d_Md_gather_23 (by decide) (fun c_6 => ?_) (fun c_6 => ?_)
      · refine lv_iinc (v := (nI (i + 1))) (lv' := [(2, .int (nI (i + 1))), (1, .int (nI n)), (0, .ref y)]) hx hb d_Md_gather_86 hl (k := 1) rfl (nI_1 i) (by decide) rfl (fun ls hl => ?_)
        refine lv_goto (tgt := 4) hx hb d_Md_gather_89 (by decide) ?_
        exact hk _ _ _ _ _ ⟨n, g, ab1, be1, ri1, p1, p2, f51, lv_sub hl [1, 0, 2] rfl, hP, hD, hS, Or.inl ⟨rf_kmt.no0 (hY.zero hi c_6), hg⟩, hrow, rfl, rfl⟩
      · refine lv_aload_n hx hb d_Md_gather_26 rfl (lv_at hl 2 rfl) ?_
        refine lv_iload_n hx hb d_Md_gather_27 rfl (lv_at hl 1 rfl) ?_
        have hFc := rf_freeW hD hS hA
        refine va_calli (rf_runV (As := [.int (nI i)]) (rest := []) S0 ml_Md_94 (c_Md_meets l D y t0 t1 t2 t3 t4 t5 c0 c1 c2 c3 c4 c5 ma ha ex ey dx dy ab1 be1 ri1 p1 p2 f0 f1 f2 f3 f4 f51 i hi H.size) hE (va_recv hK hP (ci := 4) (q0 := 0) rfl rfl) ⟨rfl, hP, hD.weaken (fun _ _ _ _ => trivial)⟩ ⟨rfl, rfl, Nat.le_of_ble_eq_true rfl, Nat.le_of_ble_eq_true rfl⟩ rfl hl.1 rfl (Nat.le_of_ble_eq_true rfl) d_Md_gather_28 ⟨Nat.zero_le _, Nat.zero_le _⟩) hS (fun q _ h => hFc q h) hFc (fun r_7 u t H1 locs ht hvm hm_8 hB hz1 hk1 hS => ?_)
        obtain ⟨hP, hD1⟩ := hB
        rw [ht] at hP
        have hD := hD1.weaken (fun k q _ h => hFc q.1 h)
        generalize H1 = H at hP hS ⊢
        have hP : va_P D vwCl (y_7 y t0 t1 t2 t3 t4 t5 c0 c1 c2 c3 c4 c5 ma ha ex ey dx dy (k_up (f1 i, f2 i, f3 i, f4 i) (ex, ey, dx, dy)) (k_dn (f1 i, f2 i, f3 i, f4 i) (ex, ey, dx, dy)) (k_ri (f1 i, f2 i, f3 i, f4 i) (ex, ey, dx, dy)) (m_a (f1 i, f2 i, f3 i, f4 i) (ex, ey, dx, dy)) (m_b (f1 i, f2 i, f3 i, f4 i) (ex, ey, dx, dy)) f0 f1 f2 f3 f4 f51) H := hP
        have hD : va_D A (y_7 y t0 t1 t2 t3 t4 t5 c0 c1 c2 c3 c4 c5 ma ha ex ey dx dy (k_up (f1 i, f2 i, f3 i, f4 i) (ex, ey, dx, dy)) (k_dn (f1 i, f2 i, f3 i, f4 i) (ex, ey, dx, dy)) (k_ri (f1 i, f2 i, f3 i, f4 i) (ex, ey, dx, dy)) (m_a (f1 i, f2 i, f3 i, f4 i) (ex, ey, dx, dy)) (m_b (f1 i, f2 i, f3 i, f4 i) (ex, ey, dx, dy)) f0 f1 f2 f3 f4 f51) := hD
        refine lv_if_eq (tgt := 86) hx hb d_Md_gather_31 (by decide) (fun c_9 => ?_) (fun c_9 => ?_)
        · refine lv_iinc (v := (nI (i + 1))) (lv' := [(2, .int (nI (i + 1))), (1, .int (nI n)), (0, .ref y)]) hx hb d_Md_gather_86 hl (k := 1) rfl (nI_1 i) (by decide) rfl (fun ls hl => ?_)
          refine lv_goto (tgt := 4) hx hb d_Md_gather_89 (by decide) ?_
          exact hk _ _ _ _ _ ⟨n, g, k_up (f1 i, f2 i, f3 i, f4 i) (ex, ey, dx, dy), k_dn (f1 i, f2 i, f3 i, f4 i) (ex, ey, dx, dy), k_ri (f1 i, f2 i, f3 i, f4 i) (ex, ey, dx, dy), m_a (f1 i, f2 i, f3 i, f4 i) (ex, ey, dx, dy), m_b (f1 i, f2 i, f3 i, f4 i) (ex, ey, dx, dy), f51, lv_sub hl [1, 0, 2] rfl, hP, hD, hS, Or.inl ⟨rf_kmt.no (hY.one hi c_6) (hm_8.f c_9), hg⟩, hrow, rfl, rfl⟩
        · refine lv_iload_n hx hb d_Md_gather_34 rfl (lv_at hl 0 rfl) ?_
          refine lv_istore_n (lv' := [(3, .int (nI n)), (1, .int (nI n)), (2, .int (nI i)), (0, .ref y)]) hx hb d_Md_gather_35 rfl hl (by decide) rfl (fun ls hl => ?_)
          have hwi := hY.one hi c_6
          have hmet := (hm_8.t c_9)
          refine rf_loopD 36 (fun a ls H locs => ∃ (ab2 be2 : Int64) (ri2 : Int32) (p3 p4 : Int64), lv_has ls 4 [(3, .int (nI a)), (1, .int (nI n)), (2, .int (nI i)), (0, .ref y)] ∧ va_P D vwCl (y_7 y t0 t1 t2 t3 t4 t5 c0 c1 c2 c3 c4 c5 ma ha ex ey dx dy ab2 be2 ri2 p3 p4 f0 f1 f2 f3 f4 (rf_shift f51 n a)) H ∧ va_D A (y_7 y t0 t1 t2 t3 t4 t5 c0 c1 c2 c3 c4 c5 ma ha ex ey dx dy ab2 be2 ri2 p3 p4 f0 f1 f2 f3 f4 (rf_shift f51 n a)) ∧ va_S A s.heap H locs ∧ a ≤ n ∧ (∀ j, a ≤ j → j < n → rf_knr wl (ex, ey, dx, dy) i (g j))) (fun ls H locs hI => ?_) (fun a ls H locs hI hk9 => ?_) n ⟨k_up (f1 i, f2 i, f3 i, f4 i) (ex, ey, dx, dy), k_dn (f1 i, f2 i, f3 i, f4 i) (ex, ey, dx, dy), k_ri (f1 i, f2 i, f3 i, f4 i) (ex, ey, dx, dy), m_a (f1 i, f2 i, f3 i, f4 i) (ex, ey, dx, dy), m_b (f1 i, f2 i, f3 i, f4 i) (ex, ey, dx, dy), lv_sub hl [0, 1, 2, 3] rfl, by rw [rf_shift_n]; exact hP, by rw [rf_shift_n]; exact hD, hS, Nat.le_refl n, fun j h1 h2 => absurd h2 (Nat.not_lt.mpr h1)⟩
          · obtain ⟨ab2, be2, ri2, p3, p4, hl, hP, hD, hS, hle, hJ⟩ := hI
            refine lv_iload_n hx hb d_Md_gather_36 rfl (lv_at hl 0 rfl) ?_
            refine lv_if_le (tgt := 76) hx hb d_Md_gather_37 (by decide) (fun c_10 => ?_) (fun c_10 => absurd (by decide) c_10)
            refine lv_aload_n hx hb d_Md_gather_76 rfl (lv_at hl 3 rfl) ?_
            refine va_get (D := D) (ci := 4) (v := .ref t5) (C := "RayFieldModel") (T := F_Md) (N := 18) hx hb hts in_Md hown hK hP 0 rfl rfl 17 (by decide) (hts _ w_297) (fun _ h9 => h9) rfl d_Md_gather_77 ?_
            refine lv_iload_n hx hb d_Md_gather_80 rfl (lv_at hl 0 rfl) ?_
            refine lv_iload_n hx hb d_Md_gather_81 rfl (lv_at hl 2 rfl) ?_
            refine rf_iast hx hb hK hP hD hS 6 5 rfl rfl (show 0 < 64 by omega) (by decide) d_Md_gather_82 (fun H locs hP hD hS => ?_)
            have hP : va_P D vwCl (y_7 y t0 t1 t2 t3 t4 t5 c0 c1 c2 c3 c4 c5 ma ha ex ey dx dy ab2 be2 ri2 p3 p4 f0 f1 f2 f3 f4 (rf_mins f51 (nI i) n 0)) H := by rw [← rf_shift_e f51 (nI i) n 0]; exact hP
            have hD : va_D A (y_7 y t0 t1 t2 t3 t4 t5 c0 c1 c2 c3 c4 c5 ma ha ex ey dx dy ab2 be2 ri2 p3 p4 f0 f1 f2 f3 f4 (rf_mins f51 (nI i) n 0)) := by rw [← rf_shift_e f51 (nI i) n 0]; exact hD
            refine lv_iinc (v := (nI (n + 1))) (lv' := [(1, .int (nI (n + 1))), (3, .int (nI 0)), (2, .int (nI i)), (0, .ref y)]) hx hb d_Md_gather_83 hl (k := 1) rfl (nI_1 n) (by decide) rfl (fun ls hl => ?_)
            refine lv_iinc (v := (nI (i + 1))) (lv' := [(2, .int (nI (i + 1))), (1, .int (nI (n + 1))), (3, .int (nI 0)), (0, .ref y)]) hx hb d_Md_gather_86 hl (k := 2) rfl (nI_1 i) (by decide) rfl (fun ls hl => ?_)
            refine lv_goto (tgt := 4) hx hb d_Md_gather_89 (by decide) ?_
            exact hk _ _ _ _ _ ⟨n + 1, g_ins g 0 i, ab2, be2, ri2, p3, p4, (rf_mins f51 (nI i) n 0), lv_sub hl [1, 0, 3] rfl, hP, hD, hS, Or.inr ⟨⟨_, hwi, hmet⟩, n, g, 0, hg, rfl, ⟨hle, hJ, fun h => absurd h (Nat.lt_irrefl 0)⟩, fun j _ => rfl⟩, rf_row_ins hrow hle, rfl, rfl⟩
          · obtain ⟨ab2, be2, ri2, p3, p4, hl, hP, hD, hS, hle, hJ⟩ := hI
            refine lv_iload_n hx hb d_Md_gather_36 rfl (lv_at hl 0 rfl) ?_
            refine lv_if_le (tgt := 76) hx hb d_Md_gather_37 (by decide) (fun c_11 => absurd c_11 (nI_nle (Nat.succ_pos a) (by omega))) (fun c_11 => ?_)
            refine lv_aload_n hx hb d_Md_gather_40 rfl (lv_at hl 3 rfl) ?_
            refine lv_iload_n hx hb d_Md_gather_41 rfl (lv_at hl 2 rfl) ?_
            refine lv_aload_n hx hb d_Md_gather_42 rfl (lv_at hl 3 rfl) ?_
            refine va_get (D := D) (ci := 4) (v := .ref t5) (C := "RayFieldModel") (T := F_Md) (N := 18) hx hb hts in_Md hown hK hP 0 rfl rfl 17 (by decide) (hts _ w_297) (fun _ h9 => h9) rfl d_Md_gather_43 ?_
            refine lv_iload_n hx hb d_Md_gather_46 rfl (lv_at hl 0 rfl) ?_
            refine lv_iconst (v := 1) hx hb d_Md_gather_47 (by decide) ?_
            refine lv_isub hx hb d_Md_gather_48 ?_
            refine rf_topi (nI_pred a) ?_
            refine rf_iald hx hb hK hP 6 5 rfl rfl (show a < 64 by omega) (by decide) d_Md_gather_49 ?_
            rw [rf_shift_at]
            rw [hrow a (by omega)]
            have hga := g_ok_in hg a (by omega)
            have hgl : g a < 64 := by have := hga.1; omega
            have hwa := hY.got hgl hga.2.choose_spec.1
            have hFc := rf_freeW hD hS hA
            refine va_calli (rf_runV (As := [.int (nI i), .int (nI (g a))]) (rest := []) S0 ml_Md_97 (c_Md_isAhead l D y t0 t1 t2 t3 t4 t5 c0 c1 c2 c3 c4 c5 ma ha ex ey dx dy ab2 be2 ri2 p3 p4 f0 f1 f2 f3 f4 (rf_shift f51 n (a + 1)) i (g a) hi hgl H.size) hE (va_recv hK hP (ci := 4) (q0 := 0) rfl rfl) ⟨rfl, hP, hD.weaken (fun _ _ _ _ => trivial)⟩ ⟨rfl, rfl, Nat.le_of_ble_eq_true rfl, Nat.le_of_ble_eq_true rfl⟩ rfl hl.1 rfl (Nat.le_of_ble_eq_true rfl) d_Md_gather_50 ⟨Nat.zero_le _, Nat.zero_le _⟩) hS (fun q _ h => hFc q h) hFc (fun r_12 u t H1 locs ht hvm hm_13 hB hz1 hk1 hS => ?_)
            obtain ⟨hP, hD1⟩ := hB
            rw [ht] at hP
            have hD := hD1.weaken (fun k q _ h => hFc q.1 h)
            generalize H1 = H at hP hS ⊢
            have hP : va_P D vwCl (y_7 y t0 t1 t2 t3 t4 t5 c0 c1 c2 c3 c4 c5 ma ha ex ey dx dy (k_up (f1 (g a), f2 (g a), f3 (g a), f4 (g a)) (ex, ey, dx, dy)) (k_dn (f1 (g a), f2 (g a), f3 (g a), f4 (g a)) (ex, ey, dx, dy)) (k_ri (f1 (g a), f2 (g a), f3 (g a), f4 (g a)) (ex, ey, dx, dy)) (m_a (f1 (g a), f2 (g a), f3 (g a), f4 (g a)) (ex, ey, dx, dy)) (m_b (f1 (g a), f2 (g a), f3 (g a), f4 (g a)) (ex, ey, dx, dy)) f0 f1 f2 f3 f4 (rf_shift f51 n (a + 1))) H := hP
            have hD : va_D A (y_7 y t0 t1 t2 t3 t4 t5 c0 c1 c2 c3 c4 c5 ma ha ex ey dx dy (k_up (f1 (g a), f2 (g a), f3 (g a), f4 (g a)) (ex, ey, dx, dy)) (k_dn (f1 (g a), f2 (g a), f3 (g a), f4 (g a)) (ex, ey, dx, dy)) (k_ri (f1 (g a), f2 (g a), f3 (g a), f4 (g a)) (ex, ey, dx, dy)) (m_a (f1 (g a), f2 (g a), f3 (g a), f4 (g a)) (ex, ey, dx, dy)) (m_b (f1 (g a), f2 (g a), f3 (g a), f4 (g a)) (ex, ey, dx, dy)) f0 f1 f2 f3 f4 (rf_shift f51 n (a + 1))) := hD
            refine lv_if_eq (tgt := 76) hx hb d_Md_gather_53 (by decide) (fun c_14 => ?_) (fun c_14 => ?_)
            · refine lv_aload_n hx hb d_Md_gather_76 rfl (lv_at hl 3 rfl) ?_
              refine va_get (D := D) (ci := 4) (v := .ref t5) (C := "RayFieldModel") (T := F_Md) (N := 18) hx hb hts in_Md hown hK hP 0 rfl rfl 17 (by decide) (hts _ w_297) (fun _ h9 => h9) rfl d_Md_gather_77 ?_
              refine lv_iload_n hx hb d_Md_gather_80 rfl (lv_at hl 0 rfl) ?_
              refine lv_iload_n hx hb d_Md_gather_81 rfl (lv_at hl 2 rfl) ?_
              refine rf_iast hx hb hK hP hD hS 6 5 rfl rfl (show (a + 1) < 64 by omega) (by decide) d_Md_gather_82 (fun H locs hP hD hS => ?_)
              have hP : va_P D vwCl (y_7 y t0 t1 t2 t3 t4 t5 c0 c1 c2 c3 c4 c5 ma ha ex ey dx dy (k_up (f1 (g a), f2 (g a), f3 (g a), f4 (g a)) (ex, ey, dx, dy)) (k_dn (f1 (g a), f2 (g a), f3 (g a), f4 (g a)) (ex, ey, dx, dy)) (k_ri (f1 (g a), f2 (g a), f3 (g a), f4 (g a)) (ex, ey, dx, dy)) (m_a (f1 (g a), f2 (g a), f3 (g a), f4 (g a)) (ex, ey, dx, dy)) (m_b (f1 (g a), f2 (g a), f3 (g a), f4 (g a)) (ex, ey, dx, dy)) f0 f1 f2 f3 f4 (rf_mins f51 (nI i) n (a + 1))) H := by rw [← rf_shift_e f51 (nI i) n (a + 1)]; exact hP
              have hD : va_D A (y_7 y t0 t1 t2 t3 t4 t5 c0 c1 c2 c3 c4 c5 ma ha ex ey dx dy (k_up (f1 (g a), f2 (g a), f3 (g a), f4 (g a)) (ex, ey, dx, dy)) (k_dn (f1 (g a), f2 (g a), f3 (g a), f4 (g a)) (ex, ey, dx, dy)) (k_ri (f1 (g a), f2 (g a), f3 (g a), f4 (g a)) (ex, ey, dx, dy)) (m_a (f1 (g a), f2 (g a), f3 (g a), f4 (g a)) (ex, ey, dx, dy)) (m_b (f1 (g a), f2 (g a), f3 (g a), f4 (g a)) (ex, ey, dx, dy)) f0 f1 f2 f3 f4 (rf_mins f51 (nI i) n (a + 1))) := by rw [← rf_shift_e f51 (nI i) n (a + 1)]; exact hD
              refine lv_iinc (v := (nI (n + 1))) (lv' := [(1, .int (nI (n + 1))), (3, .int (nI (a + 1))), (2, .int (nI i)), (0, .ref y)]) hx hb d_Md_gather_83 hl (k := 1) rfl (nI_1 n) (by decide) rfl (fun ls hl => ?_)
              refine lv_iinc (v := (nI (i + 1))) (lv' := [(2, .int (nI (i + 1))), (1, .int (nI (n + 1))), (3, .int (nI (a + 1))), (0, .ref y)]) hx hb d_Md_gather_86 hl (k := 2) rfl (nI_1 i) (by decide) rfl (fun ls hl => ?_)
              refine lv_goto (tgt := 4) hx hb d_Md_gather_89 (by decide) ?_
              exact hk _ _ _ _ _ ⟨n + 1, g_ins g (a + 1) i, k_up (f1 (g a), f2 (g a), f3 (g a), f4 (g a)) (ex, ey, dx, dy), k_dn (f1 (g a), f2 (g a), f3 (g a), f4 (g a)) (ex, ey, dx, dy), k_ri (f1 (g a), f2 (g a), f3 (g a), f4 (g a)) (ex, ey, dx, dy), m_a (f1 (g a), f2 (g a), f3 (g a), f4 (g a)) (ex, ey, dx, dy), m_b (f1 (g a), f2 (g a), f3 (g a), f4 (g a)) (ex, ey, dx, dy), (rf_mins f51 (nI i) n (a + 1)), lv_sub hl [1, 0, 3] rfl, hP, hD, hS, Or.inr ⟨⟨_, hwi, hmet⟩, n, g, (a + 1), hg, rfl, ⟨hle, hJ, fun _ => rf_knr.no hwi hwa (hm_13.f c_14)⟩, fun j _ => rfl⟩, rf_row_ins hrow hle, rfl, rfl⟩
            · refine lv_aload_n hx hb d_Md_gather_56 rfl (lv_at hl 3 rfl) ?_
              refine va_get (D := D) (ci := 4) (v := .ref t5) (C := "RayFieldModel") (T := F_Md) (N := 18) hx hb hts in_Md hown hK hP 0 rfl rfl 17 (by decide) (hts _ w_297) (fun _ h9 => h9) rfl d_Md_gather_57 ?_
              refine lv_iload_n hx hb d_Md_gather_60 rfl (lv_at hl 0 rfl) ?_
              refine lv_aload_n hx hb d_Md_gather_61 rfl (lv_at hl 3 rfl) ?_
              refine va_get (D := D) (ci := 4) (v := .ref t5) (C := "RayFieldModel") (T := F_Md) (N := 18) hx hb hts in_Md hown hK hP 0 rfl rfl 17 (by decide) (hts _ w_297) (fun _ h9 => h9) rfl d_Md_gather_62 ?_
              refine lv_iload_n hx hb d_Md_gather_65 rfl (lv_at hl 0 rfl) ?_
              refine lv_iconst (v := 1) hx hb d_Md_gather_66 (by decide) ?_
              refine lv_isub hx hb d_Md_gather_67 ?_
              refine rf_topi (nI_pred a) ?_
              refine rf_iald hx hb hK hP 6 5 rfl rfl (show a < 64 by omega) (by decide) d_Md_gather_68 ?_
              rw [rf_shift_at]
              refine rf_iast hx hb hK hP hD hS 6 5 rfl rfl (show (a + 1) < 64 by omega) (by decide) d_Md_gather_69 (fun H locs hP hD hS => ?_)
              have hP : va_P D vwCl (y_7 y t0 t1 t2 t3 t4 t5 c0 c1 c2 c3 c4 c5 ma ha ex ey dx dy (k_up (f1 (g a), f2 (g a), f3 (g a), f4 (g a)) (ex, ey, dx, dy)) (k_dn (f1 (g a), f2 (g a), f3 (g a), f4 (g a)) (ex, ey, dx, dy)) (k_ri (f1 (g a), f2 (g a), f3 (g a), f4 (g a)) (ex, ey, dx, dy)) (m_a (f1 (g a), f2 (g a), f3 (g a), f4 (g a)) (ex, ey, dx, dy)) (m_b (f1 (g a), f2 (g a), f3 (g a), f4 (g a)) (ex, ey, dx, dy)) f0 f1 f2 f3 f4 (rf_shift f51 n a)) H := by rw [← rf_shift_s f51 n a hle]; exact hP
              have hD : va_D A (y_7 y t0 t1 t2 t3 t4 t5 c0 c1 c2 c3 c4 c5 ma ha ex ey dx dy (k_up (f1 (g a), f2 (g a), f3 (g a), f4 (g a)) (ex, ey, dx, dy)) (k_dn (f1 (g a), f2 (g a), f3 (g a), f4 (g a)) (ex, ey, dx, dy)) (k_ri (f1 (g a), f2 (g a), f3 (g a), f4 (g a)) (ex, ey, dx, dy)) (m_a (f1 (g a), f2 (g a), f3 (g a), f4 (g a)) (ex, ey, dx, dy)) (m_b (f1 (g a), f2 (g a), f3 (g a), f4 (g a)) (ex, ey, dx, dy)) f0 f1 f2 f3 f4 (rf_shift f51 n a)) := by rw [← rf_shift_s f51 n a hle]; exact hD
              refine lv_iinc (v := (nI a)) (lv' := [(3, .int (nI a)), (1, .int (nI n)), (2, .int (nI i)), (0, .ref y)]) hx hb d_Md_gather_70 hl (k := 0) rfl (pk_m1 a) (by decide) rfl (fun ls hl => ?_)
              refine lv_goto (tgt := 36) hx hb d_Md_gather_73 (by decide) ?_
              have hJ2 : ∀ j, a ≤ j → j < n → rf_knr wl (ex, ey, dx, dy) i (g j) := by
                intro j h1 h2
                rcases Nat.lt_or_ge a j with q | q
                · exact hJ j q h2
                · have e : j = a := by omega
                  subst e
                  exact rf_knr.of hwi hwa hga.1 hi (hm_13.t c_14)
              exact hk9 _ _ _ ⟨k_up (f1 (g a), f2 (g a), f3 (g a), f4 (g a)) (ex, ey, dx, dy), k_dn (f1 (g a), f2 (g a), f3 (g a), f4 (g a)) (ex, ey, dx, dy), k_ri (f1 (g a), f2 (g a), f3 (g a), f4 (g a)) (ex, ey, dx, dy), m_a (f1 (g a), f2 (g a), f3 (g a), f4 (g a)) (ex, ey, dx, dy), m_b (f1 (g a), f2 (g a), f3 (g a), f4 (g a)) (ex, ey, dx, dy), lv_sub hl [0, 1, 2, 3] rfl, hP, hD, hS, by omega, hJ2⟩
