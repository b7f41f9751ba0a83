set_option maxHeartbeats 4000000 in
set_option maxRecDepth 100000 in
theorem c_RF_sortIn (l : Launch) (D : va_G) (x wa ma : Nat) (wc mc : Int32) (ry : Option Nat) (cW cM : ClassId) (wf mf : Nat → Option Nat) (L : List Nat) (f : Nat → va_E) (n : Nat) (hn : n < 64) (wl : Nat → Option Q4) (ra : Q4) (g : Nat → Nat) (hM : rf_meets L f mf wl ra n g) (k : Nat) (w : Q4) (hwk : wl k = some w) (qm : Nat) (hq : qm ∈ L) (hqf : f qm = e_Mw k w ra) (sz : Nat) : Met l y_RF_sortIn (.code y_RF_sortIn b_RF_sortIn 4 none :: BIG) { frames := 1, cells := 0, slots := 0, locals := 40 } (rf_Pc D (x_t cW cM) [.ref x, .ref qm] (fun h => h.size = sz ∧ va_P D vwCl (x_3 x wa ma wc (nI n) ry cW cM wf mf ++ va_pl L f) h ∧ va_D (fun _ => True) (x_3 x wa ma wc (nI n) ry cW cM wf mf ++ va_pl L f))) (va_Qv (S := Nat × (Nat → Option Nat)) (fun u => g_pos (rf_nr wl ra) k g n u.1 ∧ u.2 = rf_mins mf (some qm) n u.1) (fun u t => va_P D vwCl (x_3 x wa ma wc (nI (n + 1)) ry cW cM wf u.2 ++ va_pl L f) t.heap ∧ va_D (va_A (x_3 x wa ma wc (nI n) ry cW cM wf mf ++ va_pl L f) sz) (x_3 x wa ma wc (nI (n + 1)) ry cW cM wf u.2 ++ va_pl L f)) (va_A (x_3 x wa ma wc (nI n) ry cW cM wf mf ++ va_pl L f) sz)) 0 0 (va_A (x_3 x wa ma wc (nI n) ry cW cM wf mf ++ va_pl L f) sz) := by
  refine Met.ofW (cc := b_RF_sortIn) (maxL := 4) (ret := none) (by decide) rfl ?_
  intro p e s m args below meth c s₁ B hml hv
  obtain ⟨rfl, hE, hP⟩ := hv
  have hx := B.exec
  have hb := B.bytes
  have hr := B.returns
  have hts : ∀ w ∈ BIG, w.before [.ref x, .ref qm].toArray s = true := fun w h => atoms_spec (ws := .code y_RF_sortIn b_RF_sortIn 4 none :: BIG) B.pre w (List.mem_cons_of_mem _ h)
  have hown : s.vm.findClass "RayField" = some m.cls := findClass_of_methodNamed B.named
  have hlocks := B.notSynchronized
  have hK := hE.2
  have S0 : CallFix p m c b_RF_sortIn 4 s [.ref x, .ref qm].toArray BIG "RayField" := ⟨hx, hb, hml, hown, hts⟩
  have hl := lv_entry ([.ref x, .ref qm]) (n := 4) (Nat.le_of_ble_eq_true rfl)
  rw [lg_entry_eq]
  generalize (lg_sl ([.ref x, .ref qm]) ++ List.replicate (4 - (lg_sl ([.ref x, .ref qm])).length) Slot.unset).toArray = ls at hl ⊢
  have hl : lv_has ls 4 [(0, .ref x), (1, .ref qm)] := hl
  obtain ⟨hsz, hP, hD0⟩ := hP
  subst hsz
  have hD := hD0.self (sz := s.heap.size)
  generalize hAe : va_A (x_3 x wa ma wc (nI n) ry cW cM wf mf ++ va_pl L f) s.heap.size = A at hD ⊢
  have hA : ∀ q : Nat, s.heap.size ≤ q → A q := fun q h => by rw [← hAe]; exact Or.inr h
  obtain ⟨H, hH⟩ : ∃ H : Heap, H = s.heap := ⟨_, rfl⟩
  refine rf_heap hH ?_
  have hS : va_S A s.heap H [] := by rw [hH]; exact va_S.rf
  have hP : va_P D vwCl (x_3 x wa ma wc (nI n) ry cW cM wf mf ++ va_pl L f) H := by rw [hH]; exact hP
  have hPq := rf_pl hP hq hqf
  refine lv_aload_n hx hb d_RF_sortIn_0 rfl (lv_at hl 0 rfl) ?_
  refine va_get (D := D) (ci := 3) (v := .int (nI n)) (C := "RayField") (T := F_RF) (N := 5) hx hb hts in_RF hown hK hP 0 rfl rfl 4 (by decide) (hts _ w_23) (fun _ h9 => h9) rfl d_RF_sortIn_1 ?_
  refine lv_istore_n (lv' := [(2, .int (nI n)), (0, .ref x), (1, .ref qm)]) hx hb d_RF_sortIn_4 rfl hl (by decide) rfl (fun ls hl => ?_)
  refine rf_loopD 5 (fun a ls H locs => lv_has ls 4 [(2, .int (nI a)), (0, .ref x), (1, .ref qm)] ∧ va_P D vwCl (x_3 x wa ma wc (nI n) ry cW cM wf (rf_shift mf n a) ++ va_pl L f) H ∧ va_D A (x_3 x wa ma wc (nI n) ry cW cM wf (rf_shift mf n a) ++ va_pl L f) ∧ va_S A s.heap H locs ∧ a ≤ n ∧ (∀ j, a ≤ j → j < n → rf_nr wl ra k (g j))) (fun ls H locs hI => ?_) (fun a ls H locs hI hk => ?_) n ⟨lv_sub hl [0, 1, 2] rfl, by rw [rf_shift_n]; exact hP, by rw [rf_shift_n]; exact hD, hS, Nat.le_refl n, fun j h1 h2 => absurd h2 (Nat.not_lt.mpr h1)⟩
  · obtain ⟨hl, hP, hD, hS, hle, hJ⟩ := hI
    have hPq := rf_pl hP hq hqf
    refine lv_iload_n hx hb d_RF_sortIn_5 rfl (lv_at hl 0 rfl) ?_
    refine lv_if_le (tgt := 46) hx hb d_RF_sortIn_6 (by decide) (fun c_1 => ?_) (fun c_1 => absurd (by decide) c_1)
    refine lv_aload_n hx hb d_RF_sortIn_46 rfl (lv_at hl 1 rfl) ?_
    refine va_get (D := D) (ci := 3) (v := .ref ma) (C := "RayField") (T := F_RF) (N := 5) hx hb hts in_RF hown hK hP 0 rfl rfl 3 (by decide) (hts _ w_22) (fun _ h9 => h9) rfl d_RF_sortIn_47 ?_
    refine lv_iload_n hx hb d_RF_sortIn_50 rfl (lv_at hl 0 rfl) ?_
    refine lv_aload_n hx hb d_RF_sortIn_51 rfl (lv_at hl 2 rfl) ?_
    obtain ⟨k_2, hk_3⟩ := va_pl_get (X := x_3 x wa ma wc (nI n) ry cW cM wf (rf_shift mf n 0)) (f := f) hq
    rw [hqf] at hk_3
    refine rf_astq (r := ("RayField$Meeting", F_Meeting, 5)) hx hb hK hP hD hS 2 1 k_2 2 rfl rfl hk_3 rfl (show 0 < 64 by omega) (by decide) d_RF_sortIn_52 (fun H locs hP hD hS => ?_)
    have hP : va_P D vwCl (x_3 x wa ma wc (nI n) ry cW cM wf (rf_mins mf (some qm) n 0) ++ va_pl L f) H := by rw [← rf_shift_e mf (some qm) n 0]; exact hP
    have hD : va_D A (x_3 x wa ma wc (nI n) ry cW cM wf (rf_mins mf (some qm) n 0) ++ va_pl L f) := by rw [← rf_shift_e mf (some qm) n 0]; exact hD
    refine lv_aload_n hx hb d_RF_sortIn_53 rfl (lv_at hl 1 rfl) ?_
    refine lv_dup hx hb d_RF_sortIn_54 rfl ?_
    refine va_get (D := D) (ci := 3) (v := .int (nI n)) (C := "RayField") (T := F_RF) (N := 5) hx hb hts in_RF hown hK hP 0 rfl rfl 4 (by decide) (hts _ w_23) (fun _ h9 => h9) rfl d_RF_sortIn_55 ?_
    refine lv_iconst (v := 1) hx hb d_RF_sortIn_58 (by decide) ?_
    refine lv_iadd hx hb d_RF_sortIn_59 ?_
    refine rf_topi (nI_1 n) ?_
    refine va_put (D := D) (ci := 3) (v := .int (nI (n + 1))) (ty := .int) (C := "RayField") (T := F_RF) (N := 5) hx hb hts in_RF t_RF tok_RF nn_RF hown hK hP hD hS 0 rfl rfl 4 (by decide) (hts _ w_23) (fun _ h9 => h9) rfl (by decide +kernel) rfl rfl (Nat.le_of_ble_eq_true rfl) d_RF_sortIn_60 (fun H locs hP hD hS => ?_)
    have hP : va_P D vwCl (x_3 x wa ma wc (nI (n + 1)) ry cW cM wf (rf_mins mf (some qm) n 0) ++ va_pl L f) H := hP
    have hD : va_D A (x_3 x wa ma wc (nI (n + 1)) ry cW cM wf (rf_mins mf (some qm) n 0) ++ va_pl L f) := hD
    exact W.vret hx hb hr (fun t ht hW => ⟨⟨(0, rf_mins mf (some qm) n 0), rfl, ⟨⟨Nat.zero_le n, hJ, fun h => absurd h (Nat.lt_irrefl 0)⟩, rfl⟩, by rw [ht]; exact hP, hD⟩, hS.F ht⟩) hS.2.2 d_RF_sortIn_63
  · obtain ⟨hl, hP, hD, hS, hle, hJ⟩ := hI
    have hPq := rf_pl hP hq hqf
    refine lv_iload_n hx hb d_RF_sortIn_5 rfl (lv_at hl 0 rfl) ?_
    refine lv_if_le (tgt := 46) hx hb d_RF_sortIn_6 (by decide) (fun c_4 => absurd c_4 (nI_nle (Nat.succ_pos a) (by omega))) (fun c_4 => ?_)
    refine lv_aload_n hx hb d_RF_sortIn_9 rfl (lv_at hl 1 rfl) ?_
    refine va_get (D := D) (ci := 3) (v := .ref ma) (C := "RayField") (T := F_RF) (N := 5) hx hb hts in_RF hown hK hP 0 rfl rfl 3 (by decide) (hts _ w_22) (fun _ h9 => h9) rfl d_RF_sortIn_10 ?_
    refine lv_iload_n hx hb d_RF_sortIn_13 rfl (lv_at hl 0 rfl) ?_
    refine lv_iconst (v := 1) hx hb d_RF_sortIn_14 (by decide) ?_
    refine lv_isub hx hb d_RF_sortIn_15 ?_
    refine rf_topi (nI_pred a) ?_
    refine rf_aldq hx hb hK hP 2 1 rfl rfl (show a < 64 by omega) (by decide) d_RF_sortIn_16 ?_
    rw [rf_shift_at]
    obtain ⟨qb, wv, b1, b2, b3, b4⟩ := hM a (by omega)
    rw [b1]
    have hPb := rf_pl hP b2 b4
    refine W.eq (g2 := F0 m 17 ls [.ref qb]) rfl ?_
    refine lv_astore_n (lv' := [(3, .ref qb), (2, .int (nI (a + 1))), (0, .ref x), (1, .ref qm)]) hx hb d_RF_sortIn_17 rfl hl (by decide) rfl (fun ls hl => ?_)
    refine lv_aload_n hx hb d_RF_sortIn_18 rfl (lv_at hl 0 rfl) ?_
    refine lv_ifnull hx hb d_RF_sortIn_19 ?_
    refine lv_aload_n hx hb d_RF_sortIn_22 rfl (lv_at hl 3 rfl) ?_
    refine lv_aload_n hx hb d_RF_sortIn_23 rfl (lv_at hl 0 rfl) ?_
    refine vp_callSi (va_Run.run (rf_runV (As := [.ref qb]) (rest := []) S0 ml_RF_131 (c_Meeting_isNearer l D (x_t cW cM) qm qb (nI k) (m_fr w ra) (nI (g a)) (m_fr wv ra) (m_abs (m_p w ra)) (m_abs (m_a w ra)) (m_abs (m_q w ra)) (m_abs (m_p wv ra)) (m_abs (m_a wv ra)) (m_abs (m_q wv ra))) hE (va_recv hK hPq (ci := 2) (q0 := 0) rfl rfl) (va_P.app hPq hPb) ⟨rfl, rfl, Nat.le_of_ble_eq_true rfl, Nat.le_of_ble_eq_true rfl⟩ rfl hl.1 rfl (Nat.le_of_ble_eq_true rfl) d_RF_sortIn_24 ⟨Nat.zero_le _, Nat.zero_le _⟩)) (fun r_5 h_6 => ?_)
    refine lv_if_ne (tgt := 33) hx hb d_RF_sortIn_27 (by decide) (fun c_7 => ?_) (fun c_7 => ?_)
    · refine lv_aload_n hx hb d_RF_sortIn_33 rfl (lv_at hl 2 rfl) ?_
      refine va_get (D := D) (ci := 3) (v := .ref ma) (C := "RayField") (T := F_RF) (N := 5) hx hb hts in_RF hown hK hP 0 rfl rfl 3 (by decide) (hts _ w_22) (fun _ h9 => h9) rfl d_RF_sortIn_34 ?_
      refine lv_iload_n hx hb d_RF_sortIn_37 rfl (lv_at hl 1 rfl) ?_
      refine lv_aload_n hx hb d_RF_sortIn_38 rfl (lv_at hl 0 rfl) ?_
      obtain ⟨k_8, hk_9⟩ := va_pl_get (X := x_3 x wa ma wc (nI n) ry cW cM wf (rf_shift mf n (a + 1))) (f := f) b2
      rw [b4] at hk_9
      refine rf_astq (r := ("RayField$Meeting", F_Meeting, 5)) hx hb hK hP hD hS 2 1 k_8 2 rfl rfl hk_9 rfl (show (a + 1) < 64 by omega) (by decide) d_RF_sortIn_39 (fun H locs hP hD hS => ?_)
      rw [← b1] at hP hD
      have hP : va_P D vwCl (x_3 x wa ma wc (nI n) ry cW cM wf (rf_shift mf n a) ++ va_pl L f) H := by rw [← rf_shift_s mf n a hle]; exact hP
      have hD : va_D A (x_3 x wa ma wc (nI n) ry cW cM wf (rf_shift mf n a) ++ va_pl L f) := by rw [← rf_shift_s mf n a hle]; exact hD
      refine lv_iinc (v := (nI a)) (lv' := [(2, .int (nI a)), (3, .ref qb), (0, .ref x), (1, .ref qm)]) hx hb d_RF_sortIn_40 hl (k := 1) rfl (pk_m1 a) (by decide) rfl (fun ls hl => ?_)
      refine lv_goto (tgt := 5) hx hb d_RF_sortIn_43 (by decide) ?_
      have hJ2 : ∀ j, a ≤ j → j < n → rf_nr wl ra k (g j) := by
        intro j h1 h2
        rcases Nat.lt_or_ge a j with q | q
        · exact hJ j q h2
        · have e : j = a := by omega
          subst e
          exact ⟨_, _, hwk, b3, (h_6.t c_7)⟩
      exact hk _ _ _ ⟨lv_sub hl [0, 2, 3] rfl, hP, hD, hS, by omega, hJ2⟩
    · refine lv_goto (tgt := 46) hx hb d_RF_sortIn_30 (by decide) ?_
      refine lv_aload_n hx hb d_RF_sortIn_46 rfl (lv_at hl 2 rfl) ?_
      refine va_get (D := D) (ci := 3) (v := .ref ma) (C := "RayField") (T := F_RF) (N := 5) hx hb hts in_RF hown hK hP 0 rfl rfl 3 (by decide) (hts _ w_22) (fun _ h9 => h9) rfl d_RF_sortIn_47 ?_
      refine lv_iload_n hx hb d_RF_sortIn_50 rfl (lv_at hl 1 rfl) ?_
      refine lv_aload_n hx hb d_RF_sortIn_51 rfl (lv_at hl 3 rfl) ?_
      obtain ⟨k_10, hk_11⟩ := va_pl_get (X := x_3 x wa ma wc (nI n) ry cW cM wf (rf_shift mf n (a + 1))) (f := f) hq
      rw [hqf] at hk_11
      refine rf_astq (r := ("RayField$Meeting", F_Meeting, 5)) hx hb hK hP hD hS 2 1 k_10 2 rfl rfl hk_11 rfl (show (a + 1) < 64 by omega) (by decide) d_RF_sortIn_52 (fun H locs hP hD hS => ?_)
      have hP : va_P D vwCl (x_3 x wa ma wc (nI n) ry cW cM wf (rf_mins mf (some qm) n (a + 1)) ++ va_pl L f) H := by rw [← rf_shift_e mf (some qm) n (a + 1)]; exact hP
      have hD : va_D A (x_3 x wa ma wc (nI n) ry cW cM wf (rf_mins mf (some qm) n (a + 1)) ++ va_pl L f) := by rw [← rf_shift_e mf (some qm) n (a + 1)]; exact hD
      refine lv_aload_n hx hb d_RF_sortIn_53 rfl (lv_at hl 2 rfl) ?_
      refine lv_dup hx hb d_RF_sortIn_54 rfl ?_
      refine va_get (D := D) (ci := 3) (v := .int (nI n)) (C := "RayField") (T := F_RF) (N := 5) hx hb hts in_RF hown hK hP 0 rfl rfl 4 (by decide) (hts _ w_23) (fun _ h9 => h9) rfl d_RF_sortIn_55 ?_
      refine lv_iconst (v := 1) hx hb d_RF_sortIn_58 (by decide) ?_
      refine lv_iadd hx hb d_RF_sortIn_59 ?_
      refine rf_topi (nI_1 n) ?_
      refine va_put (D := D) (ci := 3) (v := .int (nI (n + 1))) (ty := .int) (C := "RayField") (T := F_RF) (N := 5) hx hb hts in_RF t_RF tok_RF nn_RF hown hK hP hD hS 0 rfl rfl 4 (by decide) (hts _ w_23) (fun _ h9 => h9) rfl (by decide +kernel) rfl rfl (Nat.le_of_ble_eq_true rfl) d_RF_sortIn_60 (fun H locs hP hD hS => ?_)
      have hP : va_P D vwCl (x_3 x wa ma wc (nI (n + 1)) ry cW cM wf (rf_mins mf (some qm) n (a + 1)) ++ va_pl L f) H := hP
      have hD : va_D A (x_3 x wa ma wc (nI (n + 1)) ry cW cM wf (rf_mins mf (some qm) n (a + 1)) ++ va_pl L f) := hD
      exact W.vret hx hb hr (fun t ht hW => ⟨⟨((a + 1), rf_mins mf (some qm) n (a + 1)), rfl, ⟨⟨hle, hJ, fun _ => rf_nr.no hwk b3 (h_6.f c_7)⟩, rfl⟩, by rw [ht]; exact hP, hD⟩, hS.F ht⟩) hS.2.2 d_RF_sortIn_63
