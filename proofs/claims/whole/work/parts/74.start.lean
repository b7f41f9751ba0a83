set_option maxHeartbeats 4000000 in
set_option maxRecDepth 100000 in
/-- from the entry, for every script of at most 2560 ints, the law comes to its end with true -/
theorem whole_start {p : Program} {e : Env} {s : State} {m : MethodId} {below : List Frame} {meth : Method} {c : Code} (l : Launch) {b L : Nat} {xs : Nat → Int32} (hL : L ≤ 2560) (C0 : lw_At p s m meth c b L xs) : W p l e room_1 s m #[Value.ref b] below meth c s.heap [] 0 0 (lw_Z below #[Value.ref b] s) (entryFrame m ([Value.ref b] : List Value).toArray 4) := by
  obtain ⟨hx, hb, hr, hml, hown, hts0, hX, hbl, hlocks, hgv⟩ := id C0
  have hown : s.vm.findClass "RayFieldLaw" = some m.cls := hown
  have hA : ∀ q : Nat, s.heap.size ≤ q → (fun q : Nat => s.heap.size ≤ q) q := fun _ h => h
  have hts : ∀ w ∈ BIG, w.before #[Value.ref b] s = true := fun w h => hts0 w (List.mem_filter.mp h).1
  have hN : rf_N s := ⟨rf_N0.of hts0, va_AO.of (hts0 _ w_16), va_AO.of (hts0 _ w_18)⟩
  have S0 : CallFix p m c code 4 s #[Value.ref b] BIG "RayFieldLaw" := ⟨hx, hb, hml, hown, hts⟩
  obtain ⟨dc0, iS0, hKn0⟩ := u_known (C := "RayField$Wall") (T := F_Wall) (N := 4) (n := 4) hts in_Wall (hts _ w_52)
  obtain ⟨dc1, iS1, hKn1⟩ := u_known (C := "RayField$Ray") (T := F_Ray) (N := 4) (n := 4) hts in_Ray (hts _ w_193)
  obtain ⟨dc2, iS2, hKn2⟩ := u_known (C := "RayField$Meeting") (T := F_Meeting) (N := 5) (n := 5) hts in_Meeting (hts _ w_122)
  obtain ⟨dc3, iS3, hKn3⟩ := u_known (C := "RayField") (T := F_RF) (N := 5) (n := 5) hts in_RF (hts _ w_8)
  obtain ⟨dc4, iS4, hKn4⟩ := u_known (C := "RayFieldModel") (T := F_Md) (N := 18) (n := 18) hts in_Md (hts _ w_275)
  obtain ⟨D, hKc⟩ : ∃ D : va_G, ∀ (k : Nat) (q : vw_C), vwCl[k]? = some q → u_Kn s q.1 q.2.1 q.2.2 (D.1 k) (D.2 k) := by
    refine ⟨(fun k => if k = 0 then dc0 else if k = 1 then dc1 else if k = 2 then dc2 else if k = 3 then dc3 else dc4, fun k => if k = 0 then iS0 else if k = 1 then iS1 else if k = 2 then iS2 else if k = 3 then iS3 else iS4), ?_⟩
    intro k q hq
    match k, hq with
    | 0, hq => cases hq; exact hKn0
    | 1, hq => cases hq; exact hKn1
    | 2, hq => cases hq; exact hKn2
    | 3, hq => cases hq; exact hKn3
    | 4, hq => cases hq; exact hKn4
    | k + 5, hq => simp [vwCl] at hq
  have hS : va_S (fun q : Nat => s.heap.size ≤ q) s.heap s.heap [] := va_S.rf
  have hK : va_K D vwCl [] s := ⟨hKc, fun k q h => by simp at h⟩
  have hP : va_P D vwCl [] s.heap := fun k q h => by simp at h
  have hD : va_D (fun q : Nat => s.heap.size ≤ q) [] := ⟨fun i j p q h => by simp at h, fun k q h => by simp at h⟩
  have hE : rf_E D [] s := ⟨hN, hK⟩
  have hl := lv_entry ([.ref b]) (n := 4) (Nat.le_of_ble_eq_true rfl)
  rw [lg_entry_eq]
  generalize (lg_sl ([.ref b]) ++ List.replicate (4 - (lg_sl ([.ref b])).length) Slot.unset).toArray = ls at hl ⊢
  have hl : lv_has ls 4 [(0, .ref b)] := hl
  refine va_new (ci := 3) (fs := [.null, .int 0, .null, .null, .int 0]) (C := "RayField") (T := F_RF) (N := 5) hx hb hts in_RF t_RF tok_RF hown (hts _ w_7) (hts _ w_8) (hts _ w_1) hK hP hD hS hA rfl (fun j hj => by rcases (show j = 0 ∨ j = 1 ∨ j = 2 ∨ j = 3 ∨ j = 4 by omega) with rfl | rfl | rfl | rfl | rfl <;> rfl) (Nat.le_of_ble_eq_true rfl) (Nat.le_of_ble_eq_true rfl) d_Law_law_0 (fun x H hP hD hS => ?_)
  have hP : va_P D vwCl [(x, .inr (3, [.null, .int 0, .null, .null, .int 0]))] H := hP
  have hD : va_D (fun q : Nat => s.heap.size ≤ q) [(x, .inr (3, [.null, .int 0, .null, .null, .int 0]))] := hD
  refine W.widen (k := 1) (n := 5) (by omega) (by omega) ?_
  refine lv_dup hx hb d_Law_law_3 rfl ?_
  have hFc := rf_freeW hD hS hA
  refine va_callv (rf_runI (As := []) (rest := [.ref x]) S0 ml_Law_9 (c_RF_init l D x H.size) hE ⟨rfl, hP, hD.weaken (fun _ _ _ _ => trivial)⟩ ⟨rfl, rfl, (Nat.le_of_ble_eq_true rfl), (Nat.le_of_ble_eq_true rfl)⟩ rfl hl.1 rfl (Nat.le_of_ble_eq_true rfl) d_Law_law_4 ⟨(Nat.le_of_ble_eq_true rfl), (Nat.le_of_ble_eq_true rfl)⟩) hS (fun q _ h => hFc q h) hFc (fun u U H1 locs hu hvm _ hB hz1 hk1 hS => ?_)
  obtain ⟨wa, ma, cW, cM⟩ := u
  obtain ⟨hP, hD1, hKx⟩ := hB
  rw [hu] at hP
  have hD := hD1.weaken (fun k q _ h => hFc q.1 h)
  have hKx : va_K D vwCl (x_t cW cM) s := va_K.moved hvm.symm hKx
  clear hFc hk1 hz1 hD1
  generalize H1 = H at hP hS ⊢
  have hP : va_P D vwCl (x_3 x wa ma 0 (nI 0) none cW cM (fun _ => none) (fun _ => none)) H := hP
  have hD : va_D (fun q : Nat => s.heap.size ≤ q) (x_3 x wa ma 0 (nI 0) none cW cM (fun _ => none) (fun _ => none)) := hD
  refine W.widen (k := 3) (n := 133) (by omega) (by omega) ?_
  refine lv_astore_n (lv' := [(1, .ref x), (0, .ref b)]) hx hb d_Law_law_7 rfl hl (by decide) rfl (fun ls hl => ?_)
  refine va_new (ci := 4) (fs := [.int 0, .null, .null, .null, .null, .null, .int 0, .int 0, .int 0, .int 0, .int 0, .int 0, .long 0, .long 0, .int 0, .long 0, .long 0, .null]) (C := "RayFieldModel") (T := F_Md) (N := 18) hx hb hts in_Md t_Md tok_Md hown (hts _ w_274) (hts _ w_275) (hts _ w_2) hK hP hD hS hA rfl (fun j hj => by rcases (show j = 0 ∨ j = 1 ∨ j = 2 ∨ j = 3 ∨ j = 4 ∨ j = 5 ∨ j = 6 ∨ j = 7 ∨ j = 8 ∨ j = 9 ∨ j = 10 ∨ j = 11 ∨ j = 12 ∨ j = 13 ∨ j = 14 ∨ j = 15 ∨ j = 16 ∨ j = 17 by omega) with rfl | rfl | rfl | rfl | rfl | rfl | rfl | rfl | rfl | rfl | rfl | rfl | rfl | rfl | rfl | rfl | rfl | rfl <;> rfl) (Nat.le_of_ble_eq_true rfl) (Nat.le_of_ble_eq_true rfl) d_Law_law_8 (fun y H hP hD hS => ?_)
  refine W.widen (k := 4) (n := 151) (by omega) (by omega) ?_
  refine lv_dup hx hb d_Law_law_11 rfl ?_
  have hPy := hP.sub (ws' := [(y, .inr (4, [.int 0, .null, .null, .null, .null, .null, .int 0, .int 0, .int 0, .int 0, .int 0, .int 0, .long 0, .long 0, .int 0, .long 0, .long 0, .null]))]) [3] rfl
  have hDy := hD.sub (ws' := [(y, .inr (4, [.int 0, .null, .null, .null, .null, .null, .int 0, .int 0, .int 0, .int 0, .int 0, .int 0, .long 0, .long 0, .int 0, .long 0, .long 0, .null]))]) [3] (by decide) rfl
  have hFc := va_free (wc := [(y, .inr (4, [.int 0, .null, .null, .null, .null, .null, .int 0, .int 0, .int 0, .int 0, .int 0, .int 0, .long 0, .long 0, .int 0, .long 0, .long 0, .null]))]) hD hS hA [3] rfl
  refine va_callv (rf_runI (As := []) (rest := [.ref y]) S0 ml_Law_12 (c_Md_init l D y H.size) hE ⟨rfl, hPy, hDy.weaken (fun _ _ _ _ => trivial)⟩ ⟨rfl, rfl, (Nat.le_of_ble_eq_true rfl), (Nat.le_of_ble_eq_true rfl)⟩ rfl hl.1 rfl (Nat.le_of_ble_eq_true rfl) d_Law_law_12 ⟨(Nat.le_of_ble_eq_true rfl), (Nat.le_of_ble_eq_true rfl)⟩) hS (fun q _ h => hFc q h) hFc (fun u U H1 locs hu hvm _ hB hz1 hk1 hS => ?_)
  obtain ⟨t0, t1, t2, t3, t4, t5, c0, c1, c2, c3, c4, c5⟩ := u
  obtain ⟨hP1, hD1, hKy⟩ := hB
  rw [hu] at hP1
  have hKy : va_K D vwCl (y_t c0 c1 c2 c3 c4 c5) s := va_K.moved hvm.symm hKy
  obtain ⟨hP, hD⟩ := va_join (wr := x_3 x wa ma 0 (nI 0) none cW cM (fun _ => none) (fun _ => none)) (w1 := y_7 y t0 t1 t2 t3 t4 t5 c0 c1 c2 c3 c4 c5 0 0 0 0 0 0 0 0 0 0 0 (fun _ => 0) (fun _ => 0) (fun _ => 0) (fun _ => 0) (fun _ => 0) (fun _ => 0)) hP hD [3] [0, 1, 2] rfl rfl (by decide) (by decide) hk1 hFc hP1 hD1
  have hP : va_P D vwCl ((y_7 y t0 t1 t2 t3 t4 t5 c0 c1 c2 c3 c4 c5 0 0 0 0 0 0 0 0 0 0 0 (fun _ => 0) (fun _ => 0) (fun _ => 0) (fun _ => 0) (fun _ => 0) (fun _ => 0) ++ x_3 x wa ma 0 (nI 0) none cW cM (fun _ => none) (fun _ => none)) ++ va_pl [] (fun _ => e_W (0, 0, 0, 0))) H1 := hP.sub [3, 4, 5, 6, 7, 8, 9, 0, 1, 2] rfl
  have hD : va_D (fun q : Nat => s.heap.size ≤ q) ((y_7 y t0 t1 t2 t3 t4 t5 c0 c1 c2 c3 c4 c5 0 0 0 0 0 0 0 0 0 0 0 (fun _ => 0) (fun _ => 0) (fun _ => 0) (fun _ => 0) (fun _ => 0) (fun _ => 0) ++ x_3 x wa ma 0 (nI 0) none cW cM (fun _ => none) (fun _ => none)) ++ va_pl [] (fun _ => e_W (0, 0, 0, 0))) := hD.sub [3, 4, 5, 6, 7, 8, 9, 0, 1, 2] (by decide) rfl
  refine W.widen (k := 10) (n := 535) (by omega) (by omega) ?_
  refine lv_astore_n (lv' := [(2, .ref y), (1, .ref x), (0, .ref b)]) hx hb d_Law_law_15 rfl hl (by decide) rfl (fun ls hl => ?_)
  refine lv_iconst (v := 0) hx hb d_Law_law_16 (by decide) ?_
  refine lv_istore_n (lv' := [(3, .int 0), (2, .ref y), (1, .ref x), (0, .ref b)]) hx hb d_Law_law_17 rfl hl (by decide) rfl (fun ls hl => ?_)
  have hl := lv_sub (l' := [(3, .int 0), (0, .ref b), (1, .ref x), (2, .ref y)]) hl [0, 3, 2, 1] rfl
  exact law_loop (x := x) (wa := wa) (ma := ma) (y := y) (t0 := t0) (t1 := t1) (t2 := t2) (t3 := t3) (t4 := t4) (t5 := t5) ⟨C0, hL, ⟨hN, hKx⟩, ⟨hN, hKy⟩⟩ ⟨(fun _ => none), 0, none, (fun _ => none), (fun _ => none), [], (fun _ => e_W (0, 0, 0, 0)), 0, (fun _ => 0), 0, 0, 0, 0, 0, 0, 0, 0, 0, 0, 0, (fun _ => 0), (fun _ => 0), (fun _ => 0), (fun _ => 0), (fun _ => 0), (fun _ => 0), hl, hP, hD, hS, rf_LW.zero, rfl, rfl⟩
