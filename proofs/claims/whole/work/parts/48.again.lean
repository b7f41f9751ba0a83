set_option maxHeartbeats 4000000 in
set_option maxRecDepth 100000 in
theorem c_RF_meetAgain (l : Launch) (D : va_G) (x wa ma : Nat) (wc mc : Int32) (ry : Option Nat) (cW cM : ClassId) (wf mf : Nat → Option Nat) (L : List Nat) (f : Nat → va_E) (wl : Nat → Option Q4) (ra : Q4) (hw : rf_walls L f wf wl) (hmp : rf_mpool L f mf) (hry : ∀ q, ry = some q → q ∈ L ∧ f q = e_R ra) (sz : Nat) : Met l y_RF_meetAgain (.code y_RF_meetAgain b_RF_meetAgain 4 none :: BIG) { frames := 4, cells := 64, slots := 320, locals := 160 } (rf_Pc D (x_t cW cM) [.ref x] (fun h => h.size = sz ∧ va_P D vwCl (x_3 x wa ma wc mc ry cW cM wf mf ++ va_pl L f) h ∧ va_D (fun _ => True) (x_3 x wa ma wc mc ry cW cM wf mf ++ va_pl L f))) (va_Qv (S := List Nat × (Nat → va_E) × (Nat → Option Nat) × Nat × (Nat → Nat)) (fun u => rf_keep L f u.1 u.2.1 ∧ rf_mpool u.1 u.2.1 u.2.2.1 ∧ u.2.2.2.1 ≤ 64 ∧ ((ry = none ∧ u.2.2.2.1 = 0) ∨ (∃ q, ry = some q ∧ rf_meets u.1 u.2.1 u.2.2.1 wl ra u.2.2.2.1 u.2.2.2.2 ∧ g_ok (rf_mt wl ra) (rf_nr wl ra) 64 u.2.2.2.1 u.2.2.2.2))) (fun u t => va_P D vwCl (x_3 x wa ma wc (nI u.2.2.2.1) ry cW cM wf u.2.2.1 ++ va_pl u.1 u.2.1) t.heap ∧ va_D (va_A (x_3 x wa ma wc mc ry cW cM wf mf ++ va_pl L f) sz) (x_3 x wa ma wc (nI u.2.2.2.1) ry cW cM wf u.2.2.1 ++ va_pl u.1 u.2.1)) (va_A (x_3 x wa ma wc mc ry cW cM wf mf ++ va_pl L f) sz)) 64 320 (va_A (x_3 x wa ma wc mc ry cW cM wf mf ++ va_pl L f) sz) := by
  refine Met.ofW (cc := b_RF_meetAgain) (maxL := 4) (ret := none) (by decide) rfl ?_
  intro p e s m args below meth c s₁ B hml hv
  obtain ⟨rfl, hE, hP⟩ := hv
  have hx := B.exec
  have hb := B.bytes
  have hr := B.returns
  have hts : ∀ w ∈ BIG, w.before [.ref x].toArray s = true := fun w h => atoms_spec (ws := .code y_RF_meetAgain b_RF_meetAgain 4 none :: BIG) B.pre w (List.mem_cons_of_mem _ h)
  have hown : s.vm.findClass "RayField" = some m.cls := findClass_of_methodNamed B.named
  have hlocks := B.notSynchronized
  have hK := hE.2
  have S0 : CallFix p m c b_RF_meetAgain 4 s [.ref x].toArray BIG "RayField" := ⟨hx, hb, hml, hown, hts⟩
  have hl := lv_entry ([.ref x]) (n := 4) (Nat.le_of_ble_eq_true rfl)
  rw [lg_entry_eq]
  generalize (lg_sl ([.ref x]) ++ List.replicate (4 - (lg_sl ([.ref x])).length) Slot.unset).toArray = ls at hl ⊢
  have hl : lv_has ls 4 [(0, .ref x)] := hl
  obtain ⟨hsz, hP, hD0⟩ := hP
  subst hsz
  have hD := hD0.self (sz := s.heap.size)
  generalize hAe : va_A (x_3 x wa ma wc mc ry cW cM wf mf ++ va_pl L f) s.heap.size = A at hD ⊢
  have hA : ∀ q : Nat, s.heap.size ≤ q → A q := fun q h => by rw [← hAe]; exact Or.inr h
  obtain ⟨H, hH⟩ : ∃ H : Heap, H = s.heap := ⟨_, rfl⟩
  refine rf_heap hH ?_
  have hS : va_S A s.heap H [] := by rw [hH]; exact va_S.rf
  have hP : va_P D vwCl (x_3 x wa ma wc mc ry cW cM wf mf ++ va_pl L f) H := by rw [hH]; exact hP
  refine lv_aload_n hx hb d_RF_meetAgain_0 rfl (lv_at hl 0 rfl) ?_
  refine lv_iconst (v := 0) hx hb d_RF_meetAgain_1 (by decide) ?_
  refine rf_topi nI_0.symm ?_
  refine va_put (D := D) (ci := 3) (v := .int (nI 0)) (ty := .int) (C := "RayField") (T := F_RF) (N := 5) hx hb hts in_RF t_RF tok_RF nn_RF hown hK hP hD hS 0 rfl rfl 4 (by decide) (hts _ w_23) (fun _ h9 => h9) rfl (by decide +kernel) rfl rfl (Nat.le_of_ble_eq_true rfl) d_RF_meetAgain_2 (fun H locs hP hD hS => ?_)
  have hP : va_P D vwCl (x_3 x wa ma wc (nI 0) ry cW cM wf mf ++ va_pl L f) H := hP
  have hD : va_D A (x_3 x wa ma wc (nI 0) ry cW cM wf mf ++ va_pl L f) := hD
  refine lv_aload_n hx hb d_RF_meetAgain_5 rfl (lv_at hl 0 rfl) ?_
  refine va_get (D := D) (ci := 3) (v := va_rf ry) (C := "RayField") (T := F_RF) (N := 5) hx hb hts in_RF hown hK hP 0 rfl rfl 2 (by decide) (hts _ w_21) (fun _ h9 => h9) rfl d_RF_meetAgain_6 ?_
  refine rf_topq (fun e_1 => ?_) (fun q_2 e_1 => ?_)
  · refine lv_astore_nN (lv' := [(1, .null), (0, .ref x)]) hx hb d_RF_meetAgain_9 rfl hl (by decide) rfl (fun ls hl => ?_)
    refine lv_aload_nN hx hb d_RF_meetAgain_10 rfl (lv_at hl 0 rfl) ?_
    refine lv_ifnonnullN hx hb d_RF_meetAgain_11 ?_
    refine W.widen (k := 64) (n := 320) (by omega) (by omega) ?_
    exact W.vret hx hb hr (fun t ht hW => ⟨⟨(L, f, mf, 0, fun _ => 0), rfl, ⟨rf_keep.rfl', hmp, Nat.zero_le _, Or.inl ⟨e_1, rfl⟩⟩, by rw [ht]; exact hP, hD⟩, hS.F ht⟩) hS.2.2 d_RF_meetAgain_14
  · obtain ⟨hqr, hqrf⟩ := hry q_2 e_1
    refine lv_astore_n (lv' := [(1, .ref q_2), (0, .ref x)]) hx hb d_RF_meetAgain_9 rfl hl (by decide) rfl (fun ls hl => ?_)
    refine lv_aload_n hx hb d_RF_meetAgain_10 rfl (lv_at hl 0 rfl) ?_
    refine lv_ifnonnull (tgt := 15) hx hb d_RF_meetAgain_11 (by decide) ?_
    refine lv_iconst (v := 0) hx hb d_RF_meetAgain_15 (by decide) ?_
    refine rf_topi nI_0.symm ?_
    refine lv_istore_n (lv' := [(2, .int (nI 0)), (1, .ref q_2), (0, .ref x)]) hx hb d_RF_meetAgain_16 rfl hl (by decide) rfl (fun ls hl => ?_)
    refine rf_loop 17 64 (fun i ls H locs k1 k2 => ∃ (n : Nat) (g : Nat → Nat) (L1 : List Nat) (f1 : Nat → va_E) (mf1 : Nat → Option Nat), lv_has ls 4 [(2, .int (nI i)), (0, .ref x), (1, .ref q_2)] ∧ va_P D vwCl (x_3 x wa ma wc (nI n) ry cW cM wf mf1 ++ va_pl L1 f1) H ∧ va_D A (x_3 x wa ma wc (nI n) ry cW cM wf mf1 ++ va_pl L1 f1) ∧ va_S A s.heap H locs ∧ rf_keep L f L1 f1 ∧ rf_mpool L1 f1 mf1 ∧ rf_meets L1 f1 mf1 wl ra n g ∧ g_ok (rf_mt wl ra) (rf_nr wl ra) i n g ∧ k1 = i ∧ k2 = 5 * i) (fun ls H locs k1 k2 hI => ?_) (fun i ls H locs k1 k2 hi hI hk => ?_) 0 (Nat.zero_le _) ⟨0, fun _ => 0, L, f, mf, lv_sub hl [0, 2, 1] rfl, hP, hD, hS, rf_keep.rfl', hmp, fun j hj => absurd hj (Nat.not_lt_zero _), rfl, rfl, rfl⟩
    · obtain ⟨n, g, L1, f1, mf1, hl, hP, hD, hS, hkp, hmp1, hM1, hg, hk1, hk2⟩ := hI
      subst k1
      subst k2
      have hnle := g_ok_le hg
      have hw1 := hw.keep hkp
      refine lv_iload_n hx hb d_RF_meetAgain_17 rfl (lv_at hl 0 rfl) ?_
      refine lv_aload_n hx hb d_RF_meetAgain_18 rfl (lv_at hl 1 rfl) ?_
      refine va_get (D := D) (ci := 3) (v := .ref wa) (C := "RayField") (T := F_RF) (N := 5) hx hb hts in_RF hown hK hP 0 rfl rfl 0 (by decide) (hts _ w_19) (fun _ h9 => h9) rfl d_RF_meetAgain_19 ?_
      refine va_alen hx hb hK hP 1 0 rfl rfl (v := nI 64) rfl d_RF_meetAgain_22 ?_
      refine lv_icmp_ge (tgt := 62) hx hb d_RF_meetAgain_23 (by decide) (fun c_3 => ?_) (fun c_3 => absurd (nI_le (Nat.le_refl _) (by decide)) c_3)
      refine W.widen (k := 64) (n := 320) (by omega) (by omega) ?_
      exact W.vret hx hb hr (fun t ht hW => ⟨⟨(L1, f1, mf1, n, g), rfl, ⟨hkp, hmp1, hnle, Or.inr ⟨q_2, e_1, hM1, hg⟩⟩, by rw [ht]; exact hP, hD⟩, hS.F ht⟩) hS.2.2 d_RF_meetAgain_62
    · obtain ⟨n, g, L1, f1, mf1, hl, hP, hD, hS, hkp, hmp1, hM1, hg, hk1, hk2⟩ := hI
      subst k1
      subst k2
      have hnle := g_ok_le hg
      have hw1 := hw.keep hkp
      refine lv_iload_n hx hb d_RF_meetAgain_17 rfl (lv_at hl 0 rfl) ?_
      refine lv_aload_n hx hb d_RF_meetAgain_18 rfl (lv_at hl 1 rfl) ?_
      refine va_get (D := D) (ci := 3) (v := .ref wa) (C := "RayField") (T := F_RF) (N := 5) hx hb hts in_RF hown hK hP 0 rfl rfl 0 (by decide) (hts _ w_19) (fun _ h9 => h9) rfl d_RF_meetAgain_19 ?_
      refine va_alen hx hb hK hP 1 0 rfl rfl (v := nI 64) rfl d_RF_meetAgain_22 ?_
      refine lv_icmp_ge (tgt := 62) hx hb d_RF_meetAgain_23 (by decide) (fun c_4 => absurd c_4 (nI_ge hi (by decide))) (fun c_4 => ?_)
      refine lv_aload_n hx hb d_RF_meetAgain_26 rfl (lv_at hl 1 rfl) ?_
      refine va_get (D := D) (ci := 3) (v := .ref wa) (C := "RayField") (T := F_RF) (N := 5) hx hb hts in_RF hown hK hP 0 rfl rfl 0 (by decide) (hts _ w_19) (fun _ h9 => h9) rfl d_RF_meetAgain_27 ?_
      refine lv_iload_n hx hb d_RF_meetAgain_30 rfl (lv_at hl 0 rfl) ?_
      refine rf_aldq hx hb hK hP 1 0 rfl rfl hi (by decide) d_RF_meetAgain_31 ?_
      refine rf_topq (fun e_5 => ?_) (fun q_6 e_5 => ?_)
      · refine lv_astore_nN (lv' := [(3, .null), (2, .int (nI i)), (0, .ref x), (1, .ref q_2)]) hx hb d_RF_meetAgain_32 rfl hl (by decide) rfl (fun ls hl => ?_)
        refine lv_aload_nN hx hb d_RF_meetAgain_33 rfl (lv_at hl 0 rfl) ?_
        refine lv_ifnullN (tgt := 56) hx hb d_RF_meetAgain_34 (by decide) ?_
        refine lv_iinc (v := (nI (i + 1))) (lv' := [(2, .int (nI (i + 1))), (3, .null), (0, .ref x), (1, .ref q_2)]) hx hb d_RF_meetAgain_56 hl (k := 1) rfl (nI_1 i) (by decide) rfl (fun ls hl => ?_)
        refine lv_goto (tgt := 17) hx hb d_RF_meetAgain_59 (by decide) ?_
        refine W.widen (k := i + 1) (n := 5 * (i + 1)) (by omega) (by omega) ?_
        exact hk _ _ _ _ _ ⟨n, g, L1, f1, mf1, lv_sub hl [0, 2, 3] rfl, hP, hD, hS, hkp, hmp1, hM1, Or.inl ⟨rf_mt.no0 (hw1.non hi e_5), hg⟩, rfl, rfl⟩
      · obtain ⟨w, hwk, hqw, hqwf⟩ := hw1.get hi e_5
        refine lv_astore_n (lv' := [(3, .ref q_6), (2, .int (nI i)), (0, .ref x), (1, .ref q_2)]) hx hb d_RF_meetAgain_32 rfl hl (by decide) rfl (fun ls hl => ?_)
        refine lv_aload_n hx hb d_RF_meetAgain_33 rfl (lv_at hl 0 rfl) ?_
        refine lv_ifnull hx hb d_RF_meetAgain_34 ?_
        refine lv_aload_n hx hb d_RF_meetAgain_37 rfl (lv_at hl 2 rfl) ?_
        refine va_get (D := D) (ci := 3) (v := .int (nI n)) (C := "RayField") (T := F_RF) (N := 5) hx hb hts in_RF hown hK hP 0 rfl rfl 4 (by decide) (hts _ w_23) (fun _ h9 => h9) rfl d_RF_meetAgain_38 ?_
        refine lv_aload_n hx hb d_RF_meetAgain_41 rfl (lv_at hl 2 rfl) ?_
        refine va_get (D := D) (ci := 3) (v := .ref ma) (C := "RayField") (T := F_RF) (N := 5) hx hb hts in_RF hown hK hP 0 rfl rfl 3 (by decide) (hts _ w_22) (fun _ h9 => h9) rfl d_RF_meetAgain_42 ?_
        refine va_alen hx hb hK hP 2 1 rfl rfl (v := nI 64) rfl d_RF_meetAgain_45 ?_
        refine lv_icmp_ge (tgt := 56) hx hb d_RF_meetAgain_46 (by decide) (fun c_7 => absurd c_7 (nI_ge (show n < 64 by omega) (by decide))) (fun c_7 => ?_)
        refine lv_aload_n hx hb d_RF_meetAgain_49 rfl (lv_at hl 2 rfl) ?_
        refine lv_iload_n hx hb d_RF_meetAgain_50 rfl (lv_at hl 1 rfl) ?_
        refine lv_aload_n hx hb d_RF_meetAgain_51 rfl (lv_at hl 0 rfl) ?_
        refine lv_aload_n hx hb d_RF_meetAgain_52 rfl (lv_at hl 3 rfl) ?_
        have hFc := rf_freeW hD hS hA
        refine va_callv (rf_runV (As := [.int (nI i), .ref q_6, .ref q_2]) (rest := []) S0 ml_RF_118 (c_RF_meetOne l D x wa ma wc mc ry cW cM wf mf1 L1 f1 n (by omega) wl ra g hM1 hmp1 i w hwk q_6 q_2 hqw hqwf (hkp.1 _ hqr) (hkp.2.2 _ _ hqr hqrf) H.size) hE (va_recv hK hP (ci := 3) (q0 := 0) rfl rfl) ⟨rfl, hP, hD.weaken (fun _ _ _ _ => trivial)⟩ ⟨rfl, rfl, Nat.le_of_ble_eq_true rfl, Nat.le_of_ble_eq_true rfl⟩ rfl hl.1 rfl (Nat.le_of_ble_eq_true rfl) d_RF_meetAgain_53 ⟨show i + 1 ≤ 64 by omega, show 5 * i + 5 ≤ 320 by omega⟩) hS (fun q _ h => hFc q h) hFc (fun u t H1 locs ht hvm hu hB hz1 hk1 hS => ?_)
        obtain ⟨hP, hD1⟩ := hB
        rw [ht] at hP
        have hD := hD1.weaken (fun k q _ h => hFc q.1 h)
        generalize H1 = H at hP hS ⊢
        obtain ⟨L2, f2, mf2, n2, g2⟩ := u
        obtain ⟨hkp2, hmp2, hM2, hor⟩ := hu
        dsimp only at hkp2 hmp2 hM2 hor hP hD
        have hP : va_P D vwCl (x_3 x wa ma wc (nI n2) ry cW cM wf mf2 ++ va_pl L2 f2) H := hP
        have hD : va_D A (x_3 x wa ma wc (nI n2) ry cW cM wf mf2 ++ va_pl L2 f2) := hD
        refine lv_iinc (v := (nI (i + 1))) (lv' := [(2, .int (nI (i + 1))), (3, .ref q_6), (0, .ref x), (1, .ref q_2)]) hx hb d_RF_meetAgain_56 hl (k := 1) rfl (nI_1 i) (by decide) rfl (fun ls hl => ?_)
        refine lv_goto (tgt := 17) hx hb d_RF_meetAgain_59 (by decide) ?_
        refine W.widen (k := i + 1) (n := 5 * (i + 1)) (by omega) (by omega) ?_
        refine hk _ _ _ _ _ ⟨n2, g2, L2, f2, mf2, lv_sub hl [0, 2, 3] rfl, hP, hD, hS, hkp.trans hkp2, hmp2, hM2, ?_, rfl, rfl⟩
        rcases hor with ⟨h1, h2, h3⟩ | ⟨h1, h2, pz, h3, h4⟩
        · subst h2; subst h3; exact Or.inl ⟨rf_mt.no hwk h1, hg⟩
        · subst h2; exact Or.inr ⟨⟨w, hwk, h1⟩, n, g, pz, hg, rfl, h3, h4⟩
