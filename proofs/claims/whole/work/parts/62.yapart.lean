set_option maxHeartbeats 4000000 in
set_option maxRecDepth 100000 in
theorem c_Md_areApart (l : Launch) (D : va_G) (y t0 t1 t2 t3 t4 t5 : Nat) (c0 c1 c2 c3 c4 c5 : ClassId) (ma ha ex ey dx dy : Int32) (ab be : Int64) (ri : Int32) (o1 o2 : Int64) (f0 f1 f2 f3 f4 f5 : Nat → Int32) (i j : Nat) (hi : i < 64) (hj : j < 64) : Met l y_Md_areApart (.code y_Md_areApart b_Md_areApart 14 (some (.boolean)) :: BIG) { frames := 2, cells := 0, slots := 0, locals := 80 } (rf_Pc D (y_t c0 c1 c2 c3 c4 c5) [.ref y, .int (nI i), .int (nI j)] (fun h => va_P D vwCl (y_7 y t0 t1 t2 t3 t4 t5 c0 c1 c2 c3 c4 c5 ma ha ex ey dx dy ab be ri o1 o2 f0 f1 f2 f3 f4 f5) h)) (vp_Si (fun r => rf_tf r (k_apart (f1 i, f2 i, f3 i, f4 i) (f1 j, f2 j, f3 j, f4 j)))) 0 0 (fun _ => False) := by
  refine Met.ofW (cc := b_Md_areApart) (maxL := 14) (ret := (some (.boolean))) (by decide) rfl ?_
  intro p e s m args below meth c s₁ B hml hv
  obtain ⟨rfl, hE, hP⟩ := hv
  have hx := B.exec
  have hb := B.bytes
  have hr := B.returns
  have hts : ∀ w ∈ BIG, w.before [.ref y, .int (nI i), .int (nI j)].toArray s = true := fun w h => atoms_spec (ws := .code y_Md_areApart b_Md_areApart 14 (some (.boolean)) :: BIG) B.pre w (List.mem_cons_of_mem _ h)
  have hown : s.vm.findClass "RayFieldModel" = some m.cls := findClass_of_methodNamed B.named
  have hlocks := B.notSynchronized
  have hK := hE.2
  have S0 : CallFix p m c b_Md_areApart 14 s [.ref y, .int (nI i), .int (nI j)].toArray BIG "RayFieldModel" := ⟨hx, hb, hml, hown, hts⟩
  have hl := lv_entry ([.ref y, .int (nI i), .int (nI j)]) (n := 14) (Nat.le_of_ble_eq_true rfl)
  rw [lg_entry_eq]
  generalize (lg_sl ([.ref y, .int (nI i), .int (nI j)]) ++ List.replicate (14 - (lg_sl ([.ref y, .int (nI i), .int (nI j)])).length) Slot.unset).toArray = ls at hl ⊢
  have hl : lv_has ls 14 [(0, .ref y), (1, .int (nI i)), (2, .int (nI j))] := hl
  have hP : va_P D vwCl (y_7 y t0 t1 t2 t3 t4 t5 c0 c1 c2 c3 c4 c5 ma ha ex ey dx dy ab be ri o1 o2 f0 f1 f2 f3 f4 f5) s.heap := hP
  refine lv_aload_n hx hb d_Md_areApart_0 rfl (lv_at hl 0 rfl) ?_
  refine va_get (D := D) (ci := 4) (v := .ref t3) (C := "RayFieldModel") (T := F_Md) (N := 18) hx hb hts in_Md hown hK hP 0 rfl rfl 4 (by decide) (hts _ w_284) (fun _ h9 => h9) rfl d_Md_areApart_1 ?_
  refine lv_iload_n hx hb d_Md_areApart_4 rfl (lv_at hl 1 rfl) ?_
  refine rf_iald hx hb hK hP 4 3 rfl rfl hi (by decide) d_Md_areApart_5 ?_
  refine lv_aload_n hx hb d_Md_areApart_6 rfl (lv_at hl 0 rfl) ?_
  refine va_get (D := D) (ci := 4) (v := .ref t1) (C := "RayFieldModel") (T := F_Md) (N := 18) hx hb hts in_Md hown hK hP 0 rfl rfl 2 (by decide) (hts _ w_282) (fun _ h9 => h9) rfl d_Md_areApart_7 ?_
  refine lv_iload_n hx hb d_Md_areApart_10 rfl (lv_at hl 1 rfl) ?_
  refine rf_iald hx hb hK hP 2 1 rfl rfl hi (by decide) d_Md_areApart_11 ?_
  refine lv_isub hx hb d_Md_areApart_12 ?_
  refine lv_i2l hx hb d_Md_areApart_13 rfl ?_
  refine lv_aload_n hx hb d_Md_areApart_14 rfl (lv_at hl 0 rfl) ?_
  refine va_get (D := D) (ci := 4) (v := .ref t4) (C := "RayFieldModel") (T := F_Md) (N := 18) hx hb hts in_Md hown hK hP 0 rfl rfl 5 (by decide) (hts _ w_285) (fun _ h9 => h9) rfl d_Md_areApart_15 ?_
  refine lv_iload_n hx hb d_Md_areApart_18 rfl (lv_at hl 1 rfl) ?_
  refine rf_iald hx hb hK hP 5 4 rfl rfl hi (by decide) d_Md_areApart_19 ?_
  refine lv_aload_n hx hb d_Md_areApart_20 rfl (lv_at hl 0 rfl) ?_
  refine va_get (D := D) (ci := 4) (v := .ref t2) (C := "RayFieldModel") (T := F_Md) (N := 18) hx hb hts in_Md hown hK hP 0 rfl rfl 3 (by decide) (hts _ w_283) (fun _ h9 => h9) rfl d_Md_areApart_21 ?_
  refine lv_iload_n hx hb d_Md_areApart_24 rfl (lv_at hl 1 rfl) ?_
  refine rf_iald hx hb hK hP 3 2 rfl rfl hi (by decide) d_Md_areApart_25 ?_
  refine lv_isub hx hb d_Md_areApart_26 ?_
  refine lv_i2l hx hb d_Md_areApart_27 rfl ?_
  refine lv_aload_n hx hb d_Md_areApart_28 rfl (lv_at hl 0 rfl) ?_
  refine va_get (D := D) (ci := 4) (v := .ref t1) (C := "RayFieldModel") (T := F_Md) (N := 18) hx hb hts in_Md hown hK hP 0 rfl rfl 2 (by decide) (hts _ w_282) (fun _ h9 => h9) rfl d_Md_areApart_29 ?_
  refine lv_iload_n hx hb d_Md_areApart_32 rfl (lv_at hl 2 rfl) ?_
  refine rf_iald hx hb hK hP 2 1 rfl rfl hj (by decide) d_Md_areApart_33 ?_
  refine lv_aload_n hx hb d_Md_areApart_34 rfl (lv_at hl 0 rfl) ?_
  refine va_get (D := D) (ci := 4) (v := .ref t1) (C := "RayFieldModel") (T := F_Md) (N := 18) hx hb hts in_Md hown hK hP 0 rfl rfl 2 (by decide) (hts _ w_282) (fun _ h9 => h9) rfl d_Md_areApart_35 ?_
  refine lv_iload_n hx hb d_Md_areApart_38 rfl (lv_at hl 1 rfl) ?_
  refine rf_iald hx hb hK hP 2 1 rfl rfl hi (by decide) d_Md_areApart_39 ?_
  refine lv_isub hx hb d_Md_areApart_40 ?_
  refine lv_i2l hx hb d_Md_areApart_41 rfl ?_
  refine lv_aload_n hx hb d_Md_areApart_42 rfl (lv_at hl 0 rfl) ?_
  refine va_get (D := D) (ci := 4) (v := .ref t2) (C := "RayFieldModel") (T := F_Md) (N := 18) hx hb hts in_Md hown hK hP 0 rfl rfl 3 (by decide) (hts _ w_283) (fun _ h9 => h9) rfl d_Md_areApart_43 ?_
  refine lv_iload_n hx hb d_Md_areApart_46 rfl (lv_at hl 2 rfl) ?_
  refine rf_iald hx hb hK hP 3 2 rfl rfl hj (by decide) d_Md_areApart_47 ?_
  refine lv_aload_n hx hb d_Md_areApart_48 rfl (lv_at hl 0 rfl) ?_
  refine va_get (D := D) (ci := 4) (v := .ref t2) (C := "RayFieldModel") (T := F_Md) (N := 18) hx hb hts in_Md hown hK hP 0 rfl rfl 3 (by decide) (hts _ w_283) (fun _ h9 => h9) rfl d_Md_areApart_49 ?_
  refine lv_iload_n hx hb d_Md_areApart_52 rfl (lv_at hl 1 rfl) ?_
  refine rf_iald hx hb hK hP 3 2 rfl rfl hi (by decide) d_Md_areApart_53 ?_
  refine lv_isub hx hb d_Md_areApart_54 ?_
  refine lv_i2l hx hb d_Md_areApart_55 rfl ?_
  refine vp_callSl (va_Run.run (rf_runS (As := [.long (((f3 i) - (f1 i)).toInt64), .long (((f4 i) - (f2 i)).toInt64), .long (((f1 j) - (f1 i)).toInt64), .long (((f2 j) - (f2 i)).toInt64)]) (rest := []) S0 ml_Md_33 (c_Md_cross l D (y_t c0 c1 c2 c3 c4 c5) (((f3 i) - (f1 i)).toInt64) (((f4 i) - (f2 i)).toInt64) (((f1 j) - (f1 i)).toInt64) (((f2 j) - (f2 i)).toInt64)) hE trivial ⟨rfl, rfl, Nat.le_of_ble_eq_true rfl, Nat.le_of_ble_eq_true rfl⟩ rfl hl.1 rfl (Nat.le_of_ble_eq_true rfl) d_Md_areApart_56 ⟨Nat.zero_le _, Nat.zero_le _⟩)) (fun r_1 h_2 => ?_)
  subst h_2
  refine rf_topl (y := m_side (f1 i, f2 i, f3 i, f4 i) (f1 j) (f2 j)) rfl ?_
  refine lv_lstore_n (lv' := [(3, .long (m_side (f1 i, f2 i, f3 i, f4 i) (f1 j) (f2 j))), (0, .ref y), (1, .int (nI i)), (2, .int (nI j))]) hx hb d_Md_areApart_59 rfl hl (by decide) rfl (fun ls hl => ?_)
  refine lv_aload_n hx hb d_Md_areApart_60 rfl (lv_at hl 1 rfl) ?_
  refine va_get (D := D) (ci := 4) (v := .ref t3) (C := "RayFieldModel") (T := F_Md) (N := 18) hx hb hts in_Md hown hK hP 0 rfl rfl 4 (by decide) (hts _ w_284) (fun _ h9 => h9) rfl d_Md_areApart_61 ?_
  refine lv_iload_n hx hb d_Md_areApart_64 rfl (lv_at hl 2 rfl) ?_
  refine rf_iald hx hb hK hP 4 3 rfl rfl hi (by decide) d_Md_areApart_65 ?_
  refine lv_aload_n hx hb d_Md_areApart_66 rfl (lv_at hl 1 rfl) ?_
  refine va_get (D := D) (ci := 4) (v := .ref t1) (C := "RayFieldModel") (T := F_Md) (N := 18) hx hb hts in_Md hown hK hP 0 rfl rfl 2 (by decide) (hts _ w_282) (fun _ h9 => h9) rfl d_Md_areApart_67 ?_
  refine lv_iload_n hx hb d_Md_areApart_70 rfl (lv_at hl 2 rfl) ?_
  refine rf_iald hx hb hK hP 2 1 rfl rfl hi (by decide) d_Md_areApart_71 ?_
  refine lv_isub hx hb d_Md_areApart_72 ?_
  refine lv_i2l hx hb d_Md_areApart_73 rfl ?_
  refine lv_aload_n hx hb d_Md_areApart_74 rfl (lv_at hl 1 rfl) ?_
  refine va_get (D := D) (ci := 4) (v := .ref t4) (C := "RayFieldModel") (T := F_Md) (N := 18) hx hb hts in_Md hown hK hP 0 rfl rfl 5 (by decide) (hts _ w_285) (fun _ h9 => h9) rfl d_Md_areApart_75 ?_
  refine lv_iload_n hx hb d_Md_areApart_78 rfl (lv_at hl 2 rfl) ?_
  refine rf_iald hx hb hK hP 5 4 rfl rfl hi (by decide) d_Md_areApart_79 ?_
  refine lv_aload_n hx hb d_Md_areApart_80 rfl (lv_at hl 1 rfl) ?_
  refine va_get (D := D) (ci := 4) (v := .ref t2) (C := "RayFieldModel") (T := F_Md) (N := 18) hx hb hts in_Md hown hK hP 0 rfl rfl 3 (by decide) (hts _ w_283) (fun _ h9 => h9) rfl d_Md_areApart_81 ?_
  refine lv_iload_n hx hb d_Md_areApart_84 rfl (lv_at hl 2 rfl) ?_
  refine rf_iald hx hb hK hP 3 2 rfl rfl hi (by decide) d_Md_areApart_85 ?_
  refine lv_isub hx hb d_Md_areApart_86 ?_
  refine lv_i2l hx hb d_Md_areApart_87 rfl ?_
  refine lv_aload_n hx hb d_Md_areApart_88 rfl (lv_at hl 1 rfl) ?_
  refine va_get (D := D) (ci := 4) (v := .ref t3) (C := "RayFieldModel") (T := F_Md) (N := 18) hx hb hts in_Md hown hK hP 0 rfl rfl 4 (by decide) (hts _ w_284) (fun _ h9 => h9) rfl d_Md_areApart_89 ?_
  refine lv_iload_n hx hb d_Md_areApart_92 rfl (lv_at hl 3 rfl) ?_
  refine rf_iald hx hb hK hP 4 3 rfl rfl hj (by decide) d_Md_areApart_93 ?_
  refine lv_aload_n hx hb d_Md_areApart_94 rfl (lv_at hl 1 rfl) ?_
  refine va_get (D := D) (ci := 4) (v := .ref t1) (C := "RayFieldModel") (T := F_Md) (N := 18) hx hb hts in_Md hown hK hP 0 rfl rfl 2 (by decide) (hts _ w_282) (fun _ h9 => h9) rfl d_Md_areApart_95 ?_
  refine lv_iload_n hx hb d_Md_areApart_98 rfl (lv_at hl 2 rfl) ?_
  refine rf_iald hx hb hK hP 2 1 rfl rfl hi (by decide) d_Md_areApart_99 ?_
  refine lv_isub hx hb d_Md_areApart_100 ?_
  refine lv_i2l hx hb d_Md_areApart_101 rfl ?_
  refine lv_aload_n hx hb d_Md_areApart_102 rfl (lv_at hl 1 rfl) ?_
  refine va_get (D := D) (ci := 4) (v := .ref t4) (C := "RayFieldModel") (T := F_Md) (N := 18) hx hb hts in_Md hown hK hP 0 rfl rfl 5 (by decide) (hts _ w_285) (fun _ h9 => h9) rfl d_Md_areApart_103 ?_
  refine lv_iload_n hx hb d_Md_areApart_106 rfl (lv_at hl 3 rfl) ?_
  refine rf_iald hx hb hK hP 5 4 rfl rfl hj (by decide) d_Md_areApart_107 ?_
  refine lv_aload_n hx hb d_Md_areApart_108 rfl (lv_at hl 1 rfl) ?_
  refine va_get (D := D) (ci := 4) (v := .ref t2) (C := "RayFieldModel") (T := F_Md) (N := 18) hx hb hts in_Md hown hK hP 0 rfl rfl 3 (by decide) (hts _ w_283) (fun _ h9 => h9) rfl d_Md_areApart_109 ?_
  refine lv_iload_n hx hb d_Md_areApart_112 rfl (lv_at hl 2 rfl) ?_
  refine rf_iald hx hb hK hP 3 2 rfl rfl hi (by decide) d_Md_areApart_113 ?_
  refine lv_isub hx hb d_Md_areApart_114 ?_
  refine lv_i2l hx hb d_Md_areApart_115 rfl ?_
  refine vp_callSl (va_Run.run (rf_runS (As := [.long (((f3 i) - (f1 i)).toInt64), .long (((f4 i) - (f2 i)).toInt64), .long (((f3 j) - (f1 i)).toInt64), .long (((f4 j) - (f2 i)).toInt64)]) (rest := []) S0 ml_Md_33 (c_Md_cross l D (y_t c0 c1 c2 c3 c4 c5) (((f3 i) - (f1 i)).toInt64) (((f4 i) - (f2 i)).toInt64) (((f3 j) - (f1 i)).toInt64) (((f4 j) - (f2 i)).toInt64)) hE trivial ⟨rfl, rfl, Nat.le_of_ble_eq_true rfl, Nat.le_of_ble_eq_true rfl⟩ rfl hl.1 rfl (Nat.le_of_ble_eq_true rfl) d_Md_areApart_116 ⟨Nat.zero_le _, Nat.zero_le _⟩)) (fun r_3 h_4 => ?_)
  subst h_4
  refine rf_topl (y := m_side (f1 i, f2 i, f3 i, f4 i) (f3 j) (f4 j)) rfl ?_
  refine lv_lstore (lv' := [(5, .long (m_side (f1 i, f2 i, f3 i, f4 i) (f3 j) (f4 j))), (3, .long (m_side (f1 i, f2 i, f3 i, f4 i) (f1 j) (f2 j))), (0, .ref y), (1, .int (nI i)), (2, .int (nI j))]) hx hb d_Md_areApart_119 hl (by decide) rfl (fun ls hl => ?_)
  refine lv_aload_n hx hb d_Md_areApart_121 rfl (lv_at hl 2 rfl) ?_
  refine va_get (D := D) (ci := 4) (v := .ref t3) (C := "RayFieldModel") (T := F_Md) (N := 18) hx hb hts in_Md hown hK hP 0 rfl rfl 4 (by decide) (hts _ w_284) (fun _ h9 => h9) rfl d_Md_areApart_122 ?_
  refine lv_iload_n hx hb d_Md_areApart_125 rfl (lv_at hl 4 rfl) ?_
  refine rf_iald hx hb hK hP 4 3 rfl rfl hj (by decide) d_Md_areApart_126 ?_
  refine lv_aload_n hx hb d_Md_areApart_127 rfl (lv_at hl 2 rfl) ?_
  refine va_get (D := D) (ci := 4) (v := .ref t1) (C := "RayFieldModel") (T := F_Md) (N := 18) hx hb hts in_Md hown hK hP 0 rfl rfl 2 (by decide) (hts _ w_282) (fun _ h9 => h9) rfl d_Md_areApart_128 ?_
  refine lv_iload_n hx hb d_Md_areApart_131 rfl (lv_at hl 4 rfl) ?_
  refine rf_iald hx hb hK hP 2 1 rfl rfl hj (by decide) d_Md_areApart_132 ?_
  refine lv_isub hx hb d_Md_areApart_133 ?_
  refine lv_i2l hx hb d_Md_areApart_134 rfl ?_
  refine lv_aload_n hx hb d_Md_areApart_135 rfl (lv_at hl 2 rfl) ?_
  refine va_get (D := D) (ci := 4) (v := .ref t4) (C := "RayFieldModel") (T := F_Md) (N := 18) hx hb hts in_Md hown hK hP 0 rfl rfl 5 (by decide) (hts _ w_285) (fun _ h9 => h9) rfl d_Md_areApart_136 ?_
  refine lv_iload_n hx hb d_Md_areApart_139 rfl (lv_at hl 4 rfl) ?_
  refine rf_iald hx hb hK hP 5 4 rfl rfl hj (by decide) d_Md_areApart_140 ?_
  refine lv_aload_n hx hb d_Md_areApart_141 rfl (lv_at hl 2 rfl) ?_
  refine va_get (D := D) (ci := 4) (v := .ref t2) (C := "RayFieldModel") (T := F_Md) (N := 18) hx hb hts in_Md hown hK hP 0 rfl rfl 3 (by decide) (hts _ w_283) (fun _ h9 => h9) rfl d_Md_areApart_142 ?_
  refine lv_iload_n hx hb d_Md_areApart_145 rfl (lv_at hl 4 rfl) ?_
  refine rf_iald hx hb hK hP 3 2 rfl rfl hj (by decide) d_Md_areApart_146 ?_
  refine lv_isub hx hb d_Md_areApart_147 ?_
  refine lv_i2l hx hb d_Md_areApart_148 rfl ?_
  refine lv_aload_n hx hb d_Md_areApart_149 rfl (lv_at hl 2 rfl) ?_
  refine va_get (D := D) (ci := 4) (v := .ref t1) (C := "RayFieldModel") (T := F_Md) (N := 18) hx hb hts in_Md hown hK hP 0 rfl rfl 2 (by decide) (hts _ w_282) (fun _ h9 => h9) rfl d_Md_areApart_150 ?_
  refine lv_iload_n hx hb d_Md_areApart_153 rfl (lv_at hl 3 rfl) ?_
  refine rf_iald hx hb hK hP 2 1 rfl rfl hi (by decide) d_Md_areApart_154 ?_
  refine lv_aload_n hx hb d_Md_areApart_155 rfl (lv_at hl 2 rfl) ?_
  refine va_get (D := D) (ci := 4) (v := .ref t1) (C := "RayFieldModel") (T := F_Md) (N := 18) hx hb hts in_Md hown hK hP 0 rfl rfl 2 (by decide) (hts _ w_282) (fun _ h9 => h9) rfl d_Md_areApart_156 ?_
  refine lv_iload_n hx hb d_Md_areApart_159 rfl (lv_at hl 4 rfl) ?_
  refine rf_iald hx hb hK hP 2 1 rfl rfl hj (by decide) d_Md_areApart_160 ?_
  refine lv_isub hx hb d_Md_areApart_161 ?_
  refine lv_i2l hx hb d_Md_areApart_162 rfl ?_
  refine lv_aload_n hx hb d_Md_areApart_163 rfl (lv_at hl 2 rfl) ?_
  refine va_get (D := D) (ci := 4) (v := .ref t2) (C := "RayFieldModel") (T := F_Md) (N := 18) hx hb hts in_Md hown hK hP 0 rfl rfl 3 (by decide) (hts _ w_283) (fun _ h9 => h9) rfl d_Md_areApart_164 ?_
  refine lv_iload_n hx hb d_Md_areApart_167 rfl (lv_at hl 3 rfl) ?_
  refine rf_iald hx hb hK hP 3 2 rfl rfl hi (by decide) d_Md_areApart_168 ?_
  refine lv_aload_n hx hb d_Md_areApart_169 rfl (lv_at hl 2 rfl) ?_
  refine va_get (D := D) (ci := 4) (v := .ref t2) (C := "RayFieldModel") (T := F_Md) (N := 18) hx hb hts in_Md hown hK hP 0 rfl rfl 3 (by decide) (hts _ w_283) (fun _ h9 => h9) rfl d_Md_areApart_170 ?_
  refine lv_iload_n hx hb d_Md_areApart_173 rfl (lv_at hl 4 rfl) ?_
  refine rf_iald hx hb hK hP 3 2 rfl rfl hj (by decide) d_Md_areApart_174 ?_
  refine lv_isub hx hb d_Md_areApart_175 ?_
  refine lv_i2l hx hb d_Md_areApart_176 rfl ?_
  refine vp_callSl (va_Run.run (rf_runS (As := [.long (((f3 j) - (f1 j)).toInt64), .long (((f4 j) - (f2 j)).toInt64), .long (((f1 i) - (f1 j)).toInt64), .long (((f2 i) - (f2 j)).toInt64)]) (rest := []) S0 ml_Md_33 (c_Md_cross l D (y_t c0 c1 c2 c3 c4 c5) (((f3 j) - (f1 j)).toInt64) (((f4 j) - (f2 j)).toInt64) (((f1 i) - (f1 j)).toInt64) (((f2 i) - (f2 j)).toInt64)) hE trivial ⟨rfl, rfl, Nat.le_of_ble_eq_true rfl, Nat.le_of_ble_eq_true rfl⟩ rfl hl.1 rfl (Nat.le_of_ble_eq_true rfl) d_Md_areApart_177 ⟨Nat.zero_le _, Nat.zero_le _⟩)) (fun r_5 h_6 => ?_)
  subst h_6
  refine rf_topl (y := m_side (f1 j, f2 j, f3 j, f4 j) (f1 i) (f2 i)) rfl ?_
  refine lv_lstore (lv' := [(7, .long (m_side (f1 j, f2 j, f3 j, f4 j) (f1 i) (f2 i))), (5, .long (m_side (f1 i, f2 i, f3 i, f4 i) (f3 j) (f4 j))), (3, .long (m_side (f1 i, f2 i, f3 i, f4 i) (f1 j) (f2 j))), (0, .ref y), (1, .int (nI i)), (2, .int (nI j))]) hx hb d_Md_areApart_180 hl (by decide) rfl (fun ls hl => ?_)
  refine lv_aload_n hx hb d_Md_areApart_182 rfl (lv_at hl 3 rfl) ?_
  refine va_get (D := D) (ci := 4) (v := .ref t3) (C := "RayFieldModel") (T := F_Md) (N := 18) hx hb hts in_Md hown hK hP 0 rfl rfl 4 (by decide) (hts _ w_284) (fun _ h9 => h9) rfl d_Md_areApart_183 ?_
  refine lv_iload_n hx hb d_Md_areApart_186 rfl (lv_at hl 5 rfl) ?_
  refine rf_iald hx hb hK hP 4 3 rfl rfl hj (by decide) d_Md_areApart_187 ?_
  refine lv_aload_n hx hb d_Md_areApart_188 rfl (lv_at hl 3 rfl) ?_
  refine va_get (D := D) (ci := 4) (v := .ref t1) (C := "RayFieldModel") (T := F_Md) (N := 18) hx hb hts in_Md hown hK hP 0 rfl rfl 2 (by decide) (hts _ w_282) (fun _ h9 => h9) rfl d_Md_areApart_189 ?_
  refine lv_iload_n hx hb d_Md_areApart_192 rfl (lv_at hl 5 rfl) ?_
  refine rf_iald hx hb hK hP 2 1 rfl rfl hj (by decide) d_Md_areApart_193 ?_
  refine lv_isub hx hb d_Md_areApart_194 ?_
  refine lv_i2l hx hb d_Md_areApart_195 rfl ?_
  refine lv_aload_n hx hb d_Md_areApart_196 rfl (lv_at hl 3 rfl) ?_
  refine va_get (D := D) (ci := 4) (v := .ref t4) (C := "RayFieldModel") (T := F_Md) (N := 18) hx hb hts in_Md hown hK hP 0 rfl rfl 5 (by decide) (hts _ w_285) (fun _ h9 => h9) rfl d_Md_areApart_197 ?_
  refine lv_iload_n hx hb d_Md_areApart_200 rfl (lv_at hl 5 rfl) ?_
  refine rf_iald hx hb hK hP 5 4 rfl rfl hj (by decide) d_Md_areApart_201 ?_
  refine lv_aload_n hx hb d_Md_areApart_202 rfl (lv_at hl 3 rfl) ?_
  refine va_get (D := D) (ci := 4) (v := .ref t2) (C := "RayFieldModel") (T := F_Md) (N := 18) hx hb hts in_Md hown hK hP 0 rfl rfl 3 (by decide) (hts _ w_283) (fun _ h9 => h9) rfl d_Md_areApart_203 ?_
  refine lv_iload_n hx hb d_Md_areApart_206 rfl (lv_at hl 5 rfl) ?_
  refine rf_iald hx hb hK hP 3 2 rfl rfl hj (by decide) d_Md_areApart_207 ?_
  refine lv_isub hx hb d_Md_areApart_208 ?_
  refine lv_i2l hx hb d_Md_areApart_209 rfl ?_
  refine lv_aload_n hx hb d_Md_areApart_210 rfl (lv_at hl 3 rfl) ?_
  refine va_get (D := D) (ci := 4) (v := .ref t3) (C := "RayFieldModel") (T := F_Md) (N := 18) hx hb hts in_Md hown hK hP 0 rfl rfl 4 (by decide) (hts _ w_284) (fun _ h9 => h9) rfl d_Md_areApart_211 ?_
  refine lv_iload_n hx hb d_Md_areApart_214 rfl (lv_at hl 4 rfl) ?_
  refine rf_iald hx hb hK hP 4 3 rfl rfl hi (by decide) d_Md_areApart_215 ?_
  refine lv_aload_n hx hb d_Md_areApart_216 rfl (lv_at hl 3 rfl) ?_
  refine va_get (D := D) (ci := 4) (v := .ref t1) (C := "RayFieldModel") (T := F_Md) (N := 18) hx hb hts in_Md hown hK hP 0 rfl rfl 2 (by decide) (hts _ w_282) (fun _ h9 => h9) rfl d_Md_areApart_217 ?_
  refine lv_iload_n hx hb d_Md_areApart_220 rfl (lv_at hl 5 rfl) ?_
  refine rf_iald hx hb hK hP 2 1 rfl rfl hj (by decide) d_Md_areApart_221 ?_
  refine lv_isub hx hb d_Md_areApart_222 ?_
  refine lv_i2l hx hb d_Md_areApart_223 rfl ?_
  refine lv_aload_n hx hb d_Md_areApart_224 rfl (lv_at hl 3 rfl) ?_
  refine va_get (D := D) (ci := 4) (v := .ref t4) (C := "RayFieldModel") (T := F_Md) (N := 18) hx hb hts in_Md hown hK hP 0 rfl rfl 5 (by decide) (hts _ w_285) (fun _ h9 => h9) rfl d_Md_areApart_225 ?_
  refine lv_iload_n hx hb d_Md_areApart_228 rfl (lv_at hl 4 rfl) ?_
  refine rf_iald hx hb hK hP 5 4 rfl rfl hi (by decide) d_Md_areApart_229 ?_
  refine lv_aload_n hx hb d_Md_areApart_230 rfl (lv_at hl 3 rfl) ?_
  refine va_get (D := D) (ci := 4) (v := .ref t2) (C := "RayFieldModel") (T := F_Md) (N := 18) hx hb hts in_Md hown hK hP 0 rfl rfl 3 (by decide) (hts _ w_283) (fun _ h9 => h9) rfl d_Md_areApart_231 ?_
  refine lv_iload_n hx hb d_Md_areApart_234 rfl (lv_at hl 5 rfl) ?_
  refine rf_iald hx hb hK hP 3 2 rfl rfl hj (by decide) d_Md_areApart_235 ?_
  refine lv_isub hx hb d_Md_areApart_236 ?_
  refine lv_i2l hx hb d_Md_areApart_237 rfl ?_
  refine vp_callSl (va_Run.run (rf_runS (As := [.long (((f3 j) - (f1 j)).toInt64), .long (((f4 j) - (f2 j)).toInt64), .long (((f3 i) - (f1 j)).toInt64), .long (((f4 i) - (f2 j)).toInt64)]) (rest := []) S0 ml_Md_33 (c_Md_cross l D (y_t c0 c1 c2 c3 c4 c5) (((f3 j) - (f1 j)).toInt64) (((f4 j) - (f2 j)).toInt64) (((f3 i) - (f1 j)).toInt64) (((f4 i) - (f2 j)).toInt64)) hE trivial ⟨rfl, rfl, Nat.le_of_ble_eq_true rfl, Nat.le_of_ble_eq_true rfl⟩ rfl hl.1 rfl (Nat.le_of_ble_eq_true rfl) d_Md_areApart_238 ⟨Nat.zero_le _, Nat.zero_le _⟩)) (fun r_7 h_8 => ?_)
  subst h_8
  refine rf_topl (y := m_side (f1 j, f2 j, f3 j, f4 j) (f3 i) (f4 i)) rfl ?_
  refine lv_lstore (lv' := [(9, .long (m_side (f1 j, f2 j, f3 j, f4 j) (f3 i) (f4 i))), (7, .long (m_side (f1 j, f2 j, f3 j, f4 j) (f1 i) (f2 i))), (5, .long (m_side (f1 i, f2 i, f3 i, f4 i) (f3 j) (f4 j))), (3, .long (m_side (f1 i, f2 i, f3 i, f4 i) (f1 j) (f2 j))), (0, .ref y), (1, .int (nI i)), (2, .int (nI j))]) hx hb d_Md_areApart_241 hl (by decide) rfl (fun ls hl => ?_)
  refine rf_joinI 302 [] (fun b => rf_tf b (k_cuts (f1 i, f2 i, f3 i, f4 i) (f1 j, f2 j, f3 j, f4 j))) (fun qc hqc => ?_) (fun J => ?_)
  · refine lv_istore (lv' := [(11, .int qc), (9, .long (m_side (f1 j, f2 j, f3 j, f4 j) (f3 i) (f4 i))), (7, .long (m_side (f1 j, f2 j, f3 j, f4 j) (f1 i) (f2 i))), (5, .long (m_side (f1 i, f2 i, f3 i, f4 i) (f3 j) (f4 j))), (3, .long (m_side (f1 i, f2 i, f3 i, f4 i) (f1 j) (f2 j))), (0, .ref y), (1, .int (nI i)), (2, .int (nI j))]) hx hb d_Md_areApart_302 hl (by decide) rfl (fun ls hl => ?_)
    refine rf_joinI 349 [] (fun b => rf_tf b (k_same (f1 i, f2 i, f3 i, f4 i) (f1 j, f2 j, f3 j, f4 j))) (fun qs hqs => ?_) (fun J => ?_)
    · refine lv_istore (lv' := [(12, .int qs), (11, .int qc), (9, .long (m_side (f1 j, f2 j, f3 j, f4 j) (f3 i) (f4 i))), (7, .long (m_side (f1 j, f2 j, f3 j, f4 j) (f1 i) (f2 i))), (5, .long (m_side (f1 i, f2 i, f3 i, f4 i) (f3 j) (f4 j))), (3, .long (m_side (f1 i, f2 i, f3 i, f4 i) (f1 j) (f2 j))), (0, .ref y), (1, .int (nI i)), (2, .int (nI j))]) hx hb d_Md_areApart_349 hl (by decide) rfl (fun ls hl => ?_)
      refine rf_joinI 516 [] (fun b => rf_tf b (k_lies (f1 i, f2 i, f3 i, f4 i) (f1 j, f2 j, f3 j, f4 j))) (fun ql hql => ?_) (fun J => ?_)
      · refine lv_istore (lv' := [(13, .int ql), (12, .int qs), (11, .int qc), (9, .long (m_side (f1 j, f2 j, f3 j, f4 j) (f3 i) (f4 i))), (7, .long (m_side (f1 j, f2 j, f3 j, f4 j) (f1 i) (f2 i))), (5, .long (m_side (f1 i, f2 i, f3 i, f4 i) (f3 j) (f4 j))), (3, .long (m_side (f1 i, f2 i, f3 i, f4 i) (f1 j) (f2 j))), (0, .ref y), (1, .int (nI i)), (2, .int (nI j))]) hx hb d_Md_areApart_516 hl (by decide) rfl (fun ls hl => ?_)
        refine lv_iload hx hb d_Md_areApart_518 (lv_at hl 2 rfl) ?_
        refine lv_if_ne (tgt := 537) hx hb d_Md_areApart_520 (by decide) (fun c_9 => ?_) (fun c_9 => ?_)
        · refine lv_iconst (v := 0) hx hb d_Md_areApart_537 (by decide) ?_
          exact W.zret (v := 0) (ty := .boolean) hx hb hr rfl (fun t ht hW => ⟨_, rfl, (rf_F (fun h => (fun h => h (hqc.t c_9)) h.1)), ht⟩) (fun _ h => absurd h List.not_mem_nil) d_Md_areApart_538
        · refine lv_iload hx hb d_Md_areApart_523 (lv_at hl 1 rfl) ?_
          refine lv_if_ne (tgt := 537) hx hb d_Md_areApart_525 (by decide) (fun c_10 => ?_) (fun c_10 => ?_)
          · refine lv_iconst (v := 0) hx hb d_Md_areApart_537 (by decide) ?_
            exact W.zret (v := 0) (ty := .boolean) hx hb hr rfl (fun t ht hW => ⟨_, rfl, (rf_F (fun h => (fun h => h (hqs.t c_10)) h.2.1)), ht⟩) (fun _ h => absurd h List.not_mem_nil) d_Md_areApart_538
          · refine lv_iload hx hb d_Md_areApart_528 (lv_at hl 0 rfl) ?_
            refine lv_if_ne (tgt := 537) hx hb d_Md_areApart_530 (by decide) (fun c_11 => ?_) (fun c_11 => ?_)
            · refine lv_iconst (v := 0) hx hb d_Md_areApart_537 (by decide) ?_
              exact W.zret (v := 0) (ty := .boolean) hx hb hr rfl (fun t ht hW => ⟨_, rfl, (rf_F (fun h => (fun h => h (hql.t c_11)) h.2.2)), ht⟩) (fun _ h => absurd h List.not_mem_nil) d_Md_areApart_538
            · refine lv_iconst (v := 1) hx hb d_Md_areApart_533 (by decide) ?_
              refine lv_goto (tgt := 538) hx hb d_Md_areApart_534 (by decide) ?_
              exact W.zret (v := 1) (ty := .boolean) hx hb hr rfl (fun t ht hW => ⟨_, rfl, (rf_T ⟨(hqc.f c_9), (hqs.f c_10), (hql.f c_11)⟩), ht⟩) (fun _ h => absurd h List.not_mem_nil) d_Md_areApart_538
      · refine lv_aload_n hx hb d_Md_areApart_351 rfl (lv_at hl 6 rfl) ?_
        refine lv_iload_n hx hb d_Md_areApart_352 rfl (lv_at hl 7 rfl) ?_
        refine lv_aload_n hx hb d_Md_areApart_353 rfl (lv_at hl 6 rfl) ?_
        refine va_get (D := D) (ci := 4) (v := .ref t1) (C := "RayFieldModel") (T := F_Md) (N := 18) hx hb hts in_Md hown hK hP 0 rfl rfl 2 (by decide) (hts _ w_282) (fun _ h9 => h9) rfl d_Md_areApart_354 ?_
        refine lv_iload_n hx hb d_Md_areApart_357 rfl (lv_at hl 8 rfl) ?_
        refine rf_iald hx hb hK hP 2 1 rfl rfl hj (by decide) d_Md_areApart_358 ?_
        refine lv_aload_n hx hb d_Md_areApart_359 rfl (lv_at hl 6 rfl) ?_
        refine va_get (D := D) (ci := 4) (v := .ref t2) (C := "RayFieldModel") (T := F_Md) (N := 18) hx hb hts in_Md hown hK hP 0 rfl rfl 3 (by decide) (hts _ w_283) (fun _ h9 => h9) rfl d_Md_areApart_360 ?_
        refine lv_iload_n hx hb d_Md_areApart_363 rfl (lv_at hl 8 rfl) ?_
        refine rf_iald hx hb hK hP 3 2 rfl rfl hj (by decide) d_Md_areApart_364 ?_
        refine vp_callSi (va_Run.run (rf_runV (As := [.int (nI i), .int (f1 j), .int (f2 j)]) (rest := []) S0 ml_Md_41 (c_Md_isOn l D y t0 t1 t2 t3 t4 t5 c0 c1 c2 c3 c4 c5 ma ha ex ey dx dy ab be ri o1 o2 f0 f1 f2 f3 f4 f5 i hi (f1 j) (f2 j)) hE (va_recv hK hP (ci := 4) (q0 := 0) rfl rfl) hP ⟨rfl, rfl, Nat.le_of_ble_eq_true rfl, Nat.le_of_ble_eq_true rfl⟩ rfl hl.1 rfl (Nat.le_of_ble_eq_true rfl) d_Md_areApart_365 ⟨Nat.zero_le _, Nat.zero_le _⟩)) (fun r_12 h_13 => ?_)
        refine lv_if_eq (tgt := 391) hx hb d_Md_areApart_368 (by decide) (fun c_14 => ?_) (fun c_14 => ?_)
        · refine lv_aload_n hx hb d_Md_areApart_391 rfl (lv_at hl 6 rfl) ?_
          refine lv_iload_n hx hb d_Md_areApart_392 rfl (lv_at hl 7 rfl) ?_
          refine lv_aload_n hx hb d_Md_areApart_393 rfl (lv_at hl 6 rfl) ?_
          refine va_get (D := D) (ci := 4) (v := .ref t3) (C := "RayFieldModel") (T := F_Md) (N := 18) hx hb hts in_Md hown hK hP 0 rfl rfl 4 (by decide) (hts _ w_284) (fun _ h9 => h9) rfl d_Md_areApart_394 ?_
          refine lv_iload_n hx hb d_Md_areApart_397 rfl (lv_at hl 8 rfl) ?_
          refine rf_iald hx hb hK hP 4 3 rfl rfl hj (by decide) d_Md_areApart_398 ?_
          refine lv_aload_n hx hb d_Md_areApart_399 rfl (lv_at hl 6 rfl) ?_
          refine va_get (D := D) (ci := 4) (v := .ref t4) (C := "RayFieldModel") (T := F_Md) (N := 18) hx hb hts in_Md hown hK hP 0 rfl rfl 5 (by decide) (hts _ w_285) (fun _ h9 => h9) rfl d_Md_areApart_400 ?_
          refine lv_iload_n hx hb d_Md_areApart_403 rfl (lv_at hl 8 rfl) ?_
          refine rf_iald hx hb hK hP 5 4 rfl rfl hj (by decide) d_Md_areApart_404 ?_
          refine vp_callSi (va_Run.run (rf_runV (As := [.int (nI i), .int (f3 j), .int (f4 j)]) (rest := []) S0 ml_Md_41 (c_Md_isOn l D y t0 t1 t2 t3 t4 t5 c0 c1 c2 c3 c4 c5 ma ha ex ey dx dy ab be ri o1 o2 f0 f1 f2 f3 f4 f5 i hi (f3 j) (f4 j)) hE (va_recv hK hP (ci := 4) (q0 := 0) rfl rfl) hP ⟨rfl, rfl, Nat.le_of_ble_eq_true rfl, Nat.le_of_ble_eq_true rfl⟩ rfl hl.1 rfl (Nat.le_of_ble_eq_true rfl) d_Md_areApart_405 ⟨Nat.zero_le _, Nat.zero_le _⟩)) (fun r_15 h_16 => ?_)
          refine lv_if_eq (tgt := 431) hx hb d_Md_areApart_408 (by decide) (fun c_17 => ?_) (fun c_17 => ?_)
          · refine lv_aload_n hx hb d_Md_areApart_431 rfl (lv_at hl 6 rfl) ?_
            refine lv_iload_n hx hb d_Md_areApart_432 rfl (lv_at hl 8 rfl) ?_
            refine lv_aload_n hx hb d_Md_areApart_433 rfl (lv_at hl 6 rfl) ?_
            refine va_get (D := D) (ci := 4) (v := .ref t1) (C := "RayFieldModel") (T := F_Md) (N := 18) hx hb hts in_Md hown hK hP 0 rfl rfl 2 (by decide) (hts _ w_282) (fun _ h9 => h9) rfl d_Md_areApart_434 ?_
            refine lv_iload_n hx hb d_Md_areApart_437 rfl (lv_at hl 7 rfl) ?_
            refine rf_iald hx hb hK hP 2 1 rfl rfl hi (by decide) d_Md_areApart_438 ?_
            refine lv_aload_n hx hb d_Md_areApart_439 rfl (lv_at hl 6 rfl) ?_
            refine va_get (D := D) (ci := 4) (v := .ref t2) (C := "RayFieldModel") (T := F_Md) (N := 18) hx hb hts in_Md hown hK hP 0 rfl rfl 3 (by decide) (hts _ w_283) (fun _ h9 => h9) rfl d_Md_areApart_440 ?_
            refine lv_iload_n hx hb d_Md_areApart_443 rfl (lv_at hl 7 rfl) ?_
            refine rf_iald hx hb hK hP 3 2 rfl rfl hi (by decide) d_Md_areApart_444 ?_
            refine vp_callSi (va_Run.run (rf_runV (As := [.int (nI j), .int (f1 i), .int (f2 i)]) (rest := []) S0 ml_Md_41 (c_Md_isOn l D y t0 t1 t2 t3 t4 t5 c0 c1 c2 c3 c4 c5 ma ha ex ey dx dy ab be ri o1 o2 f0 f1 f2 f3 f4 f5 j hj (f1 i) (f2 i)) hE (va_recv hK hP (ci := 4) (q0 := 0) rfl rfl) hP ⟨rfl, rfl, Nat.le_of_ble_eq_true rfl, Nat.le_of_ble_eq_true rfl⟩ rfl hl.1 rfl (Nat.le_of_ble_eq_true rfl) d_Md_areApart_445 ⟨Nat.zero_le _, Nat.zero_le _⟩)) (fun r_18 h_19 => ?_)
            refine lv_if_eq (tgt := 471) hx hb d_Md_areApart_448 (by decide) (fun c_20 => ?_) (fun c_20 => ?_)
            · refine lv_aload_n hx hb d_Md_areApart_471 rfl (lv_at hl 6 rfl) ?_
              refine lv_iload_n hx hb d_Md_areApart_472 rfl (lv_at hl 8 rfl) ?_
              refine lv_aload_n hx hb d_Md_areApart_473 rfl (lv_at hl 6 rfl) ?_
              refine va_get (D := D) (ci := 4) (v := .ref t3) (C := "RayFieldModel") (T := F_Md) (N := 18) hx hb hts in_Md hown hK hP 0 rfl rfl 4 (by decide) (hts _ w_284) (fun _ h9 => h9) rfl d_Md_areApart_474 ?_
              refine lv_iload_n hx hb d_Md_areApart_477 rfl (lv_at hl 7 rfl) ?_
              refine rf_iald hx hb hK hP 4 3 rfl rfl hi (by decide) d_Md_areApart_478 ?_
              refine lv_aload_n hx hb d_Md_areApart_479 rfl (lv_at hl 6 rfl) ?_
              refine va_get (D := D) (ci := 4) (v := .ref t4) (C := "RayFieldModel") (T := F_Md) (N := 18) hx hb hts in_Md hown hK hP 0 rfl rfl 5 (by decide) (hts _ w_285) (fun _ h9 => h9) rfl d_Md_areApart_480 ?_
              refine lv_iload_n hx hb d_Md_areApart_483 rfl (lv_at hl 7 rfl) ?_
              refine rf_iald hx hb hK hP 5 4 rfl rfl hi (by decide) d_Md_areApart_484 ?_
              refine vp_callSi (va_Run.run (rf_runV (As := [.int (nI j), .int (f3 i), .int (f4 i)]) (rest := []) S0 ml_Md_41 (c_Md_isOn l D y t0 t1 t2 t3 t4 t5 c0 c1 c2 c3 c4 c5 ma ha ex ey dx dy ab be ri o1 o2 f0 f1 f2 f3 f4 f5 j hj (f3 i) (f4 i)) hE (va_recv hK hP (ci := 4) (q0 := 0) rfl rfl) hP ⟨rfl, rfl, Nat.le_of_ble_eq_true rfl, Nat.le_of_ble_eq_true rfl⟩ rfl hl.1 rfl (Nat.le_of_ble_eq_true rfl) d_Md_areApart_485 ⟨Nat.zero_le _, Nat.zero_le _⟩)) (fun r_21 h_22 => ?_)
              refine lv_if_eq (tgt := 515) hx hb d_Md_areApart_488 (by decide) (fun c_23 => ?_) (fun c_23 => ?_)
              · refine lv_iconst (v := 0) hx hb d_Md_areApart_515 (by decide) ?_
                exact J _ (rf_F (fun h => h.elim (fun h => (h_13.f c_14) h.1) (fun h => h.elim (fun h => (h_16.f c_17) h.1) (fun h => h.elim (fun h => (h_19.f c_20) h.1) (fun h => (h_22.f c_23) h.1)))))
              · refine lv_aload_n hx hb d_Md_areApart_491 rfl (lv_at hl 6 rfl) ?_
                refine lv_iload_n hx hb d_Md_areApart_492 rfl (lv_at hl 8 rfl) ?_
                refine lv_aload_n hx hb d_Md_areApart_493 rfl (lv_at hl 6 rfl) ?_
                refine va_get (D := D) (ci := 4) (v := .ref t3) (C := "RayFieldModel") (T := F_Md) (N := 18) hx hb hts in_Md hown hK hP 0 rfl rfl 4 (by decide) (hts _ w_284) (fun _ h9 => h9) rfl d_Md_areApart_494 ?_
                refine lv_iload_n hx hb d_Md_areApart_497 rfl (lv_at hl 7 rfl) ?_
                refine rf_iald hx hb hK hP 4 3 rfl rfl hi (by decide) d_Md_areApart_498 ?_
                refine lv_aload_n hx hb d_Md_areApart_499 rfl (lv_at hl 6 rfl) ?_
                refine va_get (D := D) (ci := 4) (v := .ref t4) (C := "RayFieldModel") (T := F_Md) (N := 18) hx hb hts in_Md hown hK hP 0 rfl rfl 5 (by decide) (hts _ w_285) (fun _ h9 => h9) rfl d_Md_areApart_500 ?_
                refine lv_iload_n hx hb d_Md_areApart_503 rfl (lv_at hl 7 rfl) ?_
                refine rf_iald hx hb hK hP 5 4 rfl rfl hi (by decide) d_Md_areApart_504 ?_
                refine vp_callSi (va_Run.run (rf_runV (As := [.int (nI j), .int (f3 i), .int (f4 i)]) (rest := []) S0 ml_Md_37 (c_Md_isEnd l D y t0 t1 t2 t3 t4 t5 c0 c1 c2 c3 c4 c5 ma ha ex ey dx dy ab be ri o1 o2 f0 f1 f2 f3 f4 f5 j hj (f3 i) (f4 i)) hE (va_recv hK hP (ci := 4) (q0 := 0) rfl rfl) hP ⟨rfl, rfl, Nat.le_of_ble_eq_true rfl, Nat.le_of_ble_eq_true rfl⟩ rfl hl.1 rfl (Nat.le_of_ble_eq_true rfl) d_Md_areApart_505 ⟨Nat.zero_le _, Nat.zero_le _⟩)) (fun r_24 h_25 => ?_)
                refine lv_if_ne (tgt := 515) hx hb d_Md_areApart_508 (by decide) (fun c_26 => ?_) (fun c_26 => ?_)
                · refine lv_iconst (v := 0) hx hb d_Md_areApart_515 (by decide) ?_
                  exact J _ (rf_F (fun h => h.elim (fun h => (h_13.f c_14) h.1) (fun h => h.elim (fun h => (h_16.f c_17) h.1) (fun h => h.elim (fun h => (h_19.f c_20) h.1) (fun h => (fun h => h (h_25.t c_26)) h.2)))))
                · refine lv_iconst (v := 1) hx hb d_Md_areApart_511 (by decide) ?_
                  refine lv_goto (tgt := 516) hx hb d_Md_areApart_512 (by decide) ?_
                  exact J _ (rf_T (Or.inr (Or.inr (Or.inr ⟨(h_22.t c_23), (h_25.f c_26)⟩))))
            · refine lv_aload_n hx hb d_Md_areApart_451 rfl (lv_at hl 6 rfl) ?_
              refine lv_iload_n hx hb d_Md_areApart_452 rfl (lv_at hl 8 rfl) ?_
              refine lv_aload_n hx hb d_Md_areApart_453 rfl (lv_at hl 6 rfl) ?_
              refine va_get (D := D) (ci := 4) (v := .ref t1) (C := "RayFieldModel") (T := F_Md) (N := 18) hx hb hts in_Md hown hK hP 0 rfl rfl 2 (by decide) (hts _ w_282) (fun _ h9 => h9) rfl d_Md_areApart_454 ?_
              refine lv_iload_n hx hb d_Md_areApart_457 rfl (lv_at hl 7 rfl) ?_
              refine rf_iald hx hb hK hP 2 1 rfl rfl hi (by decide) d_Md_areApart_458 ?_
              refine lv_aload_n hx hb d_Md_areApart_459 rfl (lv_at hl 6 rfl) ?_
              refine va_get (D := D) (ci := 4) (v := .ref t2) (C := "RayFieldModel") (T := F_Md) (N := 18) hx hb hts in_Md hown hK hP 0 rfl rfl 3 (by decide) (hts _ w_283) (fun _ h9 => h9) rfl d_Md_areApart_460 ?_
              refine lv_iload_n hx hb d_Md_areApart_463 rfl (lv_at hl 7 rfl) ?_
              refine rf_iald hx hb hK hP 3 2 rfl rfl hi (by decide) d_Md_areApart_464 ?_
              refine vp_callSi (va_Run.run (rf_runV (As := [.int (nI j), .int (f1 i), .int (f2 i)]) (rest := []) S0 ml_Md_37 (c_Md_isEnd l D y t0 t1 t2 t3 t4 t5 c0 c1 c2 c3 c4 c5 ma ha ex ey dx dy ab be ri o1 o2 f0 f1 f2 f3 f4 f5 j hj (f1 i) (f2 i)) hE (va_recv hK hP (ci := 4) (q0 := 0) rfl rfl) hP ⟨rfl, rfl, Nat.le_of_ble_eq_true rfl, Nat.le_of_ble_eq_true rfl⟩ rfl hl.1 rfl (Nat.le_of_ble_eq_true rfl) d_Md_areApart_465 ⟨Nat.zero_le _, Nat.zero_le _⟩)) (fun r_27 h_28 => ?_)
              refine lv_if_eq (tgt := 511) hx hb d_Md_areApart_468 (by decide) (fun c_29 => ?_) (fun c_29 => ?_)
              · refine lv_iconst (v := 1) hx hb d_Md_areApart_511 (by decide) ?_
                refine lv_goto (tgt := 516) hx hb d_Md_areApart_512 (by decide) ?_
                exact J _ (rf_T (Or.inr (Or.inr (Or.inl ⟨(h_19.t c_20), (h_28.f c_29)⟩))))
              · refine lv_aload_n hx hb d_Md_areApart_471 rfl (lv_at hl 6 rfl) ?_
                refine lv_iload_n hx hb d_Md_areApart_472 rfl (lv_at hl 8 rfl) ?_
                refine lv_aload_n hx hb d_Md_areApart_473 rfl (lv_at hl 6 rfl) ?_
                refine va_get (D := D) (ci := 4) (v := .ref t3) (C := "RayFieldModel") (T := F_Md) (N := 18) hx hb hts in_Md hown hK hP 0 rfl rfl 4 (by decide) (hts _ w_284) (fun _ h9 => h9) rfl d_Md_areApart_474 ?_
                refine lv_iload_n hx hb d_Md_areApart_477 rfl (lv_at hl 7 rfl) ?_
                refine rf_iald hx hb hK hP 4 3 rfl rfl hi (by decide) d_Md_areApart_478 ?_
                refine lv_aload_n hx hb d_Md_areApart_479 rfl (lv_at hl 6 rfl) ?_
                refine va_get (D := D) (ci := 4) (v := .ref t4) (C := "RayFieldModel") (T := F_Md) (N := 18) hx hb hts in_Md hown hK hP 0 rfl rfl 5 (by decide) (hts _ w_285) (fun _ h9 => h9) rfl d_Md_areApart_480 ?_
                refine lv_iload_n hx hb d_Md_areApart_483 rfl (lv_at hl 7 rfl) ?_
                refine rf_iald hx hb hK hP 5 4 rfl rfl hi (by decide) d_Md_areApart_484 ?_
                refine vp_callSi (va_Run.run (rf_runV (As := [.int (nI j), .int (f3 i), .int (f4 i)]) (rest := []) S0 ml_Md_41 (c_Md_isOn l D y t0 t1 t2 t3 t4 t5 c0 c1 c2 c3 c4 c5 ma ha ex ey dx dy ab be ri o1 o2 f0 f1 f2 f3 f4 f5 j hj (f3 i) (f4 i)) hE (va_recv hK hP (ci := 4) (q0 := 0) rfl rfl) hP ⟨rfl, rfl, Nat.le_of_ble_eq_true rfl, Nat.le_of_ble_eq_true rfl⟩ rfl hl.1 rfl (Nat.le_of_ble_eq_true rfl) d_Md_areApart_485 ⟨Nat.zero_le _, Nat.zero_le _⟩)) (fun r_30 h_31 => ?_)
                refine lv_if_eq (tgt := 515) hx hb d_Md_areApart_488 (by decide) (fun c_32 => ?_) (fun c_32 => ?_)
                · refine lv_iconst (v := 0) hx hb d_Md_areApart_515 (by decide) ?_
                  exact J _ (rf_F (fun h => h.elim (fun h => (h_13.f c_14) h.1) (fun h => h.elim (fun h => (h_16.f c_17) h.1) (fun h => h.elim (fun h => (fun h => h (h_28.t c_29)) h.2) (fun h => (h_31.f c_32) h.1)))))
                · refine lv_aload_n hx hb d_Md_areApart_491 rfl (lv_at hl 6 rfl) ?_
                  refine lv_iload_n hx hb d_Md_areApart_492 rfl (lv_at hl 8 rfl) ?_
                  refine lv_aload_n hx hb d_Md_areApart_493 rfl (lv_at hl 6 rfl) ?_
                  refine va_get (D := D) (ci := 4) (v := .ref t3) (C := "RayFieldModel") (T := F_Md) (N := 18) hx hb hts in_Md hown hK hP 0 rfl rfl 4 (by decide) (hts _ w_284) (fun _ h9 => h9) rfl d_Md_areApart_494 ?_
                  refine lv_iload_n hx hb d_Md_areApart_497 rfl (lv_at hl 7 rfl) ?_
                  refine rf_iald hx hb hK hP 4 3 rfl rfl hi (by decide) d_Md_areApart_498 ?_
                  refine lv_aload_n hx hb d_Md_areApart_499 rfl (lv_at hl 6 rfl) ?_
                  refine va_get (D := D) (ci := 4) (v := .ref t4) (C := "RayFieldModel") (T := F_Md) (N := 18) hx hb hts in_Md hown hK hP 0 rfl rfl 5 (by decide) (hts _ w_285) (fun _ h9 => h9) rfl d_Md_areApart_500 ?_
                  refine lv_iload_n hx hb d_Md_areApart_503 rfl (lv_at hl 7 rfl) ?_
                  refine rf_iald hx hb hK hP 5 4 rfl rfl hi (by decide) d_Md_areApart_504 ?_
                  refine vp_callSi (va_Run.run (rf_runV (As := [.int (nI j), .int (f3 i), .int (f4 i)]) (rest := []) S0 ml_Md_37 (c_Md_isEnd l D y t0 t1 t2 t3 t4 t5 c0 c1 c2 c3 c4 c5 ma ha ex ey dx dy ab be ri o1 o2 f0 f1 f2 f3 f4 f5 j hj (f3 i) (f4 i)) hE (va_recv hK hP (ci := 4) (q0 := 0) rfl rfl) hP ⟨rfl, rfl, Nat.le_of_ble_eq_true rfl, Nat.le_of_ble_eq_true rfl⟩ rfl hl.1 rfl (Nat.le_of_ble_eq_true rfl) d_Md_areApart_505 ⟨Nat.zero_le _, Nat.zero_le _⟩)) (fun r_33 h_34 => ?_)
                  refine lv_if_ne (tgt := 515) hx hb d_Md_areApart_508 (by decide) (fun c_35 => ?_) (fun c_35 => ?_)
                  · refine lv_iconst (v := 0) hx hb d_Md_areApart_515 (by decide) ?_
                    exact J _ (rf_F (fun h => h.elim (fun h => (h_13.f c_14) h.1) (fun h => h.elim (fun h => (h_16.f c_17) h.1) (fun h => h.elim (fun h => (fun h => h (h_28.t c_29)) h.2) (fun h => (fun h => h (h_34.t c_35)) h.2)))))
                  · refine lv_iconst (v := 1) hx hb d_Md_areApart_511 (by decide) ?_
                    refine lv_goto (tgt := 516) hx hb d_Md_areApart_512 (by decide) ?_
                    exact J _ (rf_T (Or.inr (Or.inr (Or.inr ⟨(h_31.t c_32), (h_34.f c_35)⟩))))
          · refine lv_aload_n hx hb d_Md_areApart_411 rfl (lv_at hl 6 rfl) ?_
            refine lv_iload_n hx hb d_Md_areApart_412 rfl (lv_at hl 7 rfl) ?_
            refine lv_aload_n hx hb d_Md_areApart_413 rfl (lv_at hl 6 rfl) ?_
            refine va_get (D := D) (ci := 4) (v := .ref t3) (C := "RayFieldModel") (T := F_Md) (N := 18) hx hb hts in_Md hown hK hP 0 rfl rfl 4 (by decide) (hts _ w_284) (fun _ h9 => h9) rfl d_Md_areApart_414 ?_
            refine lv_iload_n hx hb d_Md_areApart_417 rfl (lv_at hl 8 rfl) ?_
            refine rf_iald hx hb hK hP 4 3 rfl rfl hj (by decide) d_Md_areApart_418 ?_
            refine lv_aload_n hx hb d_Md_areApart_419 rfl (lv_at hl 6 rfl) ?_
            refine va_get (D := D) (ci := 4) (v := .ref t4) (C := "RayFieldModel") (T := F_Md) (N := 18) hx hb hts in_Md hown hK hP 0 rfl rfl 5 (by decide) (hts _ w_285) (fun _ h9 => h9) rfl d_Md_areApart_420 ?_
            refine lv_iload_n hx hb d_Md_areApart_423 rfl (lv_at hl 8 rfl) ?_
            refine rf_iald hx hb hK hP 5 4 rfl rfl hj (by decide) d_Md_areApart_424 ?_
            refine vp_callSi (va_Run.run (rf_runV (As := [.int (nI i), .int (f3 j), .int (f4 j)]) (rest := []) S0 ml_Md_37 (c_Md_isEnd l D y t0 t1 t2 t3 t4 t5 c0 c1 c2 c3 c4 c5 ma ha ex ey dx dy ab be ri o1 o2 f0 f1 f2 f3 f4 f5 i hi (f3 j) (f4 j)) hE (va_recv hK hP (ci := 4) (q0 := 0) rfl rfl) hP ⟨rfl, rfl, Nat.le_of_ble_eq_true rfl, Nat.le_of_ble_eq_true rfl⟩ rfl hl.1 rfl (Nat.le_of_ble_eq_true rfl) d_Md_areApart_425 ⟨Nat.zero_le _, Nat.zero_le _⟩)) (fun r_36 h_37 => ?_)
            refine lv_if_eq (tgt := 511) hx hb d_Md_areApart_428 (by decide) (fun c_38 => ?_) (fun c_38 => ?_)
            · refine lv_iconst (v := 1) hx hb d_Md_areApart_511 (by decide) ?_
              refine lv_goto (tgt := 516) hx hb d_Md_areApart_512 (by decide) ?_
              exact J _ (rf_T (Or.inr (Or.inl ⟨(h_16.t c_17), (h_37.f c_38)⟩)))
            · refine lv_aload_n hx hb d_Md_areApart_431 rfl (lv_at hl 6 rfl) ?_
              refine lv_iload_n hx hb d_Md_areApart_432 rfl (lv_at hl 8 rfl) ?_
              refine lv_aload_n hx hb d_Md_areApart_433 rfl (lv_at hl 6 rfl) ?_
              refine va_get (D := D) (ci := 4) (v := .ref t1) (C := "RayFieldModel") (T := F_Md) (N := 18) hx hb hts in_Md hown hK hP 0 rfl rfl 2 (by decide) (hts _ w_282) (fun _ h9 => h9) rfl d_Md_areApart_434 ?_
              refine lv_iload_n hx hb d_Md_areApart_437 rfl (lv_at hl 7 rfl) ?_
              refine rf_iald hx hb hK hP 2 1 rfl rfl hi (by decide) d_Md_areApart_438 ?_
              refine lv_aload_n hx hb d_Md_areApart_439 rfl (lv_at hl 6 rfl) ?_
              refine va_get (D := D) (ci := 4) (v := .ref t2) (C := "RayFieldModel") (T := F_Md) (N := 18) hx hb hts in_Md hown hK hP 0 rfl rfl 3 (by decide) (hts _ w_283) (fun _ h9 => h9) rfl d_Md_areApart_440 ?_
              refine lv_iload_n hx hb d_Md_areApart_443 rfl (lv_at hl 7 rfl) ?_
              refine rf_iald hx hb hK hP 3 2 rfl rfl hi (by decide) d_Md_areApart_444 ?_
              refine vp_callSi (va_Run.run (rf_runV (As := [.int (nI j), .int (f1 i), .int (f2 i)]) (rest := []) S0 ml_Md_41 (c_Md_isOn l D y t0 t1 t2 t3 t4 t5 c0 c1 c2 c3 c4 c5 ma ha ex ey dx dy ab be ri o1 o2 f0 f1 f2 f3 f4 f5 j hj (f1 i) (f2 i)) hE (va_recv hK hP (ci := 4) (q0 := 0) rfl rfl) hP ⟨rfl, rfl, Nat.le_of_ble_eq_true rfl, Nat.le_of_ble_eq_true rfl⟩ rfl hl.1 rfl (Nat.le_of_ble_eq_true rfl) d_Md_areApart_445 ⟨Nat.zero_le _, Nat.zero_le _⟩)) (fun r_39 h_40 => ?_)
              refine lv_if_eq (tgt := 471) hx hb d_Md_areApart_448 (by decide) (fun c_41 => ?_) (fun c_41 => ?_)
              · refine lv_aload_n hx hb d_Md_areApart_471 rfl (lv_at hl 6 rfl) ?_
                refine lv_iload_n hx hb d_Md_areApart_472 rfl (lv_at hl 8 rfl) ?_
                refine lv_aload_n hx hb d_Md_areApart_473 rfl (lv_at hl 6 rfl) ?_
                refine va_get (D := D) (ci := 4) (v := .ref t3) (C := "RayFieldModel") (T := F_Md) (N := 18) hx hb hts in_Md hown hK hP 0 rfl rfl 4 (by decide) (hts _ w_284) (fun _ h9 => h9) rfl d_Md_areApart_474 ?_
                refine lv_iload_n hx hb d_Md_areApart_477 rfl (lv_at hl 7 rfl) ?_
                refine rf_iald hx hb hK hP 4 3 rfl rfl hi (by decide) d_Md_areApart_478 ?_
                refine lv_aload_n hx hb d_Md_areApart_479 rfl (lv_at hl 6 rfl) ?_
                refine va_get (D := D) (ci := 4) (v := .ref t4) (C := "RayFieldModel") (T := F_Md) (N := 18) hx hb hts in_Md hown hK hP 0 rfl rfl 5 (by decide) (hts _ w_285) (fun _ h9 => h9) rfl d_Md_areApart_480 ?_
                refine lv_iload_n hx hb d_Md_areApart_483 rfl (lv_at hl 7 rfl) ?_
                refine rf_iald hx hb hK hP 5 4 rfl rfl hi (by decide) d_Md_areApart_484 ?_
                refine vp_callSi (va_Run.run (rf_runV (As := [.int (nI j), .int (f3 i), .int (f4 i)]) (rest := []) S0 ml_Md_41 (c_Md_isOn l D y t0 t1 t2 t3 t4 t5 c0 c1 c2 c3 c4 c5 ma ha ex ey dx dy ab be ri o1 o2 f0 f1 f2 f3 f4 f5 j hj (f3 i) (f4 i)) hE (va_recv hK hP (ci := 4) (q0 := 0) rfl rfl) hP ⟨rfl, rfl, Nat.le_of_ble_eq_true rfl, Nat.le_of_ble_eq_true rfl⟩ rfl hl.1 rfl (Nat.le_of_ble_eq_true rfl) d_Md_areApart_485 ⟨Nat.zero_le _, Nat.zero_le _⟩)) (fun r_42 h_43 => ?_)
                refine lv_if_eq (tgt := 515) hx hb d_Md_areApart_488 (by decide) (fun c_44 => ?_) (fun c_44 => ?_)
                · refine lv_iconst (v := 0) hx hb d_Md_areApart_515 (by decide) ?_
                  exact J _ (rf_F (fun h => h.elim (fun h => (h_13.f c_14) h.1) (fun h => h.elim (fun h => (fun h => h (h_37.t c_38)) h.2) (fun h => h.elim (fun h => (h_40.f c_41) h.1) (fun h => (h_43.f c_44) h.1)))))
                · refine lv_aload_n hx hb d_Md_areApart_491 rfl (lv_at hl 6 rfl) ?_
                  refine lv_iload_n hx hb d_Md_areApart_492 rfl (lv_at hl 8 rfl) ?_
                  refine lv_aload_n hx hb d_Md_areApart_493 rfl (lv_at hl 6 rfl) ?_
                  refine va_get (D := D) (ci := 4) (v := .ref t3) (C := "RayFieldModel") (T := F_Md) (N := 18) hx hb hts in_Md hown hK hP 0 rfl rfl 4 (by decide) (hts _ w_284) (fun _ h9 => h9) rfl d_Md_areApart_494 ?_
                  refine lv_iload_n hx hb d_Md_areApart_497 rfl (lv_at hl 7 rfl) ?_
                  refine rf_iald hx hb hK hP 4 3 rfl rfl hi (by decide) d_Md_areApart_498 ?_
                  refine lv_aload_n hx hb d_Md_areApart_499 rfl (lv_at hl 6 rfl) ?_
                  refine va_get (D := D) (ci := 4) (v := .ref t4) (C := "RayFieldModel") (T := F_Md) (N := 18) hx hb hts in_Md hown hK hP 0 rfl rfl 5 (by decide) (hts _ w_285) (fun _ h9 => h9) rfl d_Md_areApart_500 ?_
                  refine lv_iload_n hx hb d_Md_areApart_503 rfl (lv_at hl 7 rfl) ?_
                  refine rf_iald hx hb hK hP 5 4 rfl rfl hi (by decide) d_Md_areApart_504 ?_
                  refine vp_callSi (va_Run.run (rf_runV (As := [.int (nI j), .int (f3 i), .int (f4 i)]) (rest := []) S0 ml_Md_37 (c_Md_isEnd l D y t0 t1 t2 t3 t4 t5 c0 c1 c2 c3 c4 c5 ma ha ex ey dx dy ab be ri o1 o2 f0 f1 f2 f3 f4 f5 j hj (f3 i) (f4 i)) hE (va_recv hK hP (ci := 4) (q0 := 0) rfl rfl) hP ⟨rfl, rfl, Nat.le_of_ble_eq_true rfl, Nat.le_of_ble_eq_true rfl⟩ rfl hl.1 rfl (Nat.le_of_ble_eq_true rfl) d_Md_areApart_505 ⟨Nat.zero_le _, Nat.zero_le _⟩)) (fun r_45 h_46 => ?_)
                  refine lv_if_ne (tgt := 515) hx hb d_Md_areApart_508 (by decide) (fun c_47 => ?_) (fun c_47 => ?_)
                  · refine lv_iconst (v := 0) hx hb d_Md_areApart_515 (by decide) ?_
                    exact J _ (rf_F (fun h => h.elim (fun h => (h_13.f c_14) h.1) (fun h => h.elim (fun h => (fun h => h (h_37.t c_38)) h.2) (fun h => h.elim (fun h => (h_40.f c_41) h.1) (fun h => (fun h => h (h_46.t c_47)) h.2)))))
                  · refine lv_iconst (v := 1) hx hb d_Md_areApart_511 (by decide) ?_
                    refine lv_goto (tgt := 516) hx hb d_Md_areApart_512 (by decide) ?_
                    exact J _ (rf_T (Or.inr (Or.inr (Or.inr ⟨(h_43.t c_44), (h_46.f c_47)⟩))))
              · refine lv_aload_n hx hb d_Md_areApart_451 rfl (lv_at hl 6 rfl) ?_
                refine lv_iload_n hx hb d_Md_areApart_452 rfl (lv_at hl 8 rfl) ?_
                refine lv_aload_n hx hb d_Md_areApart_453 rfl (lv_at hl 6 rfl) ?_
                refine va_get (D := D) (ci := 4) (v := .ref t1) (C := "RayFieldModel") (T := F_Md) (N := 18) hx hb hts in_Md hown hK hP 0 rfl rfl 2 (by decide) (hts _ w_282) (fun _ h9 => h9) rfl d_Md_areApart_454 ?_
                refine lv_iload_n hx hb d_Md_areApart_457 rfl (lv_at hl 7 rfl) ?_
                refine rf_iald hx hb hK hP 2 1 rfl rfl hi (by decide) d_Md_areApart_458 ?_
                refine lv_aload_n hx hb d_Md_areApart_459 rfl (lv_at hl 6 rfl) ?_
                refine va_get (D := D) (ci := 4) (v := .ref t2) (C := "RayFieldModel") (T := F_Md) (N := 18) hx hb hts in_Md hown hK hP 0 rfl rfl 3 (by decide) (hts _ w_283) (fun _ h9 => h9) rfl d_Md_areApart_460 ?_
                refine lv_iload_n hx hb d_Md_areApart_463 rfl (lv_at hl 7 rfl) ?_
                refine rf_iald hx hb hK hP 3 2 rfl rfl hi (by decide) d_Md_areApart_464 ?_
                refine vp_callSi (va_Run.run (rf_runV (As := [.int (nI j), .int (f1 i), .int (f2 i)]) (rest := []) S0 ml_Md_37 (c_Md_isEnd l D y t0 t1 t2 t3 t4 t5 c0 c1 c2 c3 c4 c5 ma ha ex ey dx dy ab be ri o1 o2 f0 f1 f2 f3 f4 f5 j hj (f1 i) (f2 i)) hE (va_recv hK hP (ci := 4) (q0 := 0) rfl rfl) hP ⟨rfl, rfl, Nat.le_of_ble_eq_true rfl, Nat.le_of_ble_eq_true rfl⟩ rfl hl.1 rfl (Nat.le_of_ble_eq_true rfl) d_Md_areApart_465 ⟨Nat.zero_le _, Nat.zero_le _⟩)) (fun r_48 h_49 => ?_)
                refine lv_if_eq (tgt := 511) hx hb d_Md_areApart_468 (by decide) (fun c_50 => ?_) (fun c_50 => ?_)
                · refine lv_iconst (v := 1) hx hb d_Md_areApart_511 (by decide) ?_
                  refine lv_goto (tgt := 516) hx hb d_Md_areApart_512 (by decide) ?_
                  exact J _ (rf_T (Or.inr (Or.inr (Or.inl ⟨(h_40.t c_41), (h_49.f c_50)⟩))))
                · refine lv_aload_n hx hb d_Md_areApart_471 rfl (lv_at hl 6 rfl) ?_
                  refine lv_iload_n hx hb d_Md_areApart_472 rfl (lv_at hl 8 rfl) ?_
                  refine lv_aload_n hx hb d_Md_areApart_473 rfl (lv_at hl 6 rfl) ?_
                  refine va_get (D := D) (ci := 4) (v := .ref t3) (C := "RayFieldModel") (T := F_Md) (N := 18) hx hb hts in_Md hown hK hP 0 rfl rfl 4 (by decide) (hts _ w_284) (fun _ h9 => h9) rfl d_Md_areApart_474 ?_
                  refine lv_iload_n hx hb d_Md_areApart_477 rfl (lv_at hl 7 rfl) ?_
                  refine rf_iald hx hb hK hP 4 3 rfl rfl hi (by decide) d_Md_areApart_478 ?_
                  refine lv_aload_n hx hb d_Md_areApart_479 rfl (lv_at hl 6 rfl) ?_
                  refine va_get (D := D) (ci := 4) (v := .ref t4) (C := "RayFieldModel") (T := F_Md) (N := 18) hx hb hts in_Md hown hK hP 0 rfl rfl 5 (by decide) (hts _ w_285) (fun _ h9 => h9) rfl d_Md_areApart_480 ?_
                  refine lv_iload_n hx hb d_Md_areApart_483 rfl (lv_at hl 7 rfl) ?_
                  refine rf_iald hx hb hK hP 5 4 rfl rfl hi (by decide) d_Md_areApart_484 ?_
                  refine vp_callSi (va_Run.run (rf_runV (As := [.int (nI j), .int (f3 i), .int (f4 i)]) (rest := []) S0 ml_Md_41 (c_Md_isOn l D y t0 t1 t2 t3 t4 t5 c0 c1 c2 c3 c4 c5 ma ha ex ey dx dy ab be ri o1 o2 f0 f1 f2 f3 f4 f5 j hj (f3 i) (f4 i)) hE (va_recv hK hP (ci := 4) (q0 := 0) rfl rfl) hP ⟨rfl, rfl, Nat.le_of_ble_eq_true rfl, Nat.le_of_ble_eq_true rfl⟩ rfl hl.1 rfl (Nat.le_of_ble_eq_true rfl) d_Md_areApart_485 ⟨Nat.zero_le _, Nat.zero_le _⟩)) (fun r_51 h_52 => ?_)
                  refine lv_if_eq (tgt := 515) hx hb d_Md_areApart_488 (by decide) (fun c_53 => ?_) (fun c_53 => ?_)
                  · refine lv_iconst (v := 0) hx hb d_Md_areApart_515 (by decide) ?_
                    exact J _ (rf_F (fun h => h.elim (fun h => (h_13.f c_14) h.1) (fun h => h.elim (fun h => (fun h => h (h_37.t c_38)) h.2) (fun h => h.elim (fun h => (fun h => h (h_49.t c_50)) h.2) (fun h => (h_52.f c_53) h.1)))))
                  · refine lv_aload_n hx hb d_Md_areApart_491 rfl (lv_at hl 6 rfl) ?_
                    refine lv_iload_n hx hb d_Md_areApart_492 rfl (lv_at hl 8 rfl) ?_
                    refine lv_aload_n hx hb d_Md_areApart_493 rfl (lv_at hl 6 rfl) ?_
                    refine va_get (D := D) (ci := 4) (v := .ref t3) (C := "RayFieldModel") (T := F_Md) (N := 18) hx hb hts in_Md hown hK hP 0 rfl rfl 4 (by decide) (hts _ w_284) (fun _ h9 => h9) rfl d_Md_areApart_494 ?_
                    refine lv_iload_n hx hb d_Md_areApart_497 rfl (lv_at hl 7 rfl) ?_
                    refine rf_iald hx hb hK hP 4 3 rfl rfl hi (by decide) d_Md_areApart_498 ?_
                    refine lv_aload_n hx hb d_Md_areApart_499 rfl (lv_at hl 6 rfl) ?_
                    refine va_get (D := D) (ci := 4) (v := .ref t4) (C := "RayFieldModel") (T := F_Md) (N := 18) hx hb hts in_Md hown hK hP 0 rfl rfl 5 (by decide) (hts _ w_285) (fun _ h9 => h9) rfl d_Md_areApart_500 ?_
                    refine lv_iload_n hx hb d_Md_areApart_503 rfl (lv_at hl 7 rfl) ?_
                    refine rf_iald hx hb hK hP 5 4 rfl rfl hi (by decide) d_Md_areApart_504 ?_
                    refine vp_callSi (va_Run.run (rf_runV (As := [.int (nI j), .int (f3 i), .int (f4 i)]) (rest := []) S0 ml_Md_37 (c_Md_isEnd l D y t0 t1 t2 t3 t4 t5 c0 c1 c2 c3 c4 c5 ma ha ex ey dx dy ab be ri o1 o2 f0 f1 f2 f3 f4 f5 j hj (f3 i) (f4 i)) hE (va_recv hK hP (ci := 4) (q0 := 0) rfl rfl) hP ⟨rfl, rfl, Nat.le_of_ble_eq_true rfl, Nat.le_of_ble_eq_true rfl⟩ rfl hl.1 rfl (Nat.le_of_ble_eq_true rfl) d_Md_areApart_505 ⟨Nat.zero_le _, Nat.zero_le _⟩)) (fun r_54 h_55 => ?_)
                    refine lv_if_ne (tgt := 515) hx hb d_Md_areApart_508 (by decide) (fun c_56 => ?_) (fun c_56 => ?_)
                    · refine lv_iconst (v := 0) hx hb d_Md_areApart_515 (by decide) ?_
                      exact J _ (rf_F (fun h => h.elim (fun h => (h_13.f c_14) h.1) (fun h => h.elim (fun h => (fun h => h (h_37.t c_38)) h.2) (fun h => h.elim (fun h => (fun h => h (h_49.t c_50)) h.2) (fun h => (fun h => h (h_55.t c_56)) h.2)))))
                    · refine lv_iconst (v := 1) hx hb d_Md_areApart_511 (by decide) ?_
                      refine lv_goto (tgt := 516) hx hb d_Md_areApart_512 (by decide) ?_
                      exact J _ (rf_T (Or.inr (Or.inr (Or.inr ⟨(h_52.t c_53), (h_55.f c_56)⟩))))
        · refine lv_aload_n hx hb d_Md_areApart_371 rfl (lv_at hl 6 rfl) ?_
          refine lv_iload_n hx hb d_Md_areApart_372 rfl (lv_at hl 7 rfl) ?_
          refine lv_aload_n hx hb d_Md_areApart_373 rfl (lv_at hl 6 rfl) ?_
          refine va_get (D := D) (ci := 4) (v := .ref t1) (C := "RayFieldModel") (T := F_Md) (N := 18) hx hb hts in_Md hown hK hP 0 rfl rfl 2 (by decide) (hts _ w_282) (fun _ h9 => h9) rfl d_Md_areApart_374 ?_
          refine lv_iload_n hx hb d_Md_areApart_377 rfl (lv_at hl 8 rfl) ?_
          refine rf_iald hx hb hK hP 2 1 rfl rfl hj (by decide) d_Md_areApart_378 ?_
          refine lv_aload_n hx hb d_Md_areApart_379 rfl (lv_at hl 6 rfl) ?_
          refine va_get (D := D) (ci := 4) (v := .ref t2) (C := "RayFieldModel") (T := F_Md) (N := 18) hx hb hts in_Md hown hK hP 0 rfl rfl 3 (by decide) (hts _ w_283) (fun _ h9 => h9) rfl d_Md_areApart_380 ?_
          refine lv_iload_n hx hb d_Md_areApart_383 rfl (lv_at hl 8 rfl) ?_
          refine rf_iald hx hb hK hP 3 2 rfl rfl hj (by decide) d_Md_areApart_384 ?_
          refine vp_callSi (va_Run.run (rf_runV (As := [.int (nI i), .int (f1 j), .int (f2 j)]) (rest := []) S0 ml_Md_37 (c_Md_isEnd l D y t0 t1 t2 t3 t4 t5 c0 c1 c2 c3 c4 c5 ma ha ex ey dx dy ab be ri o1 o2 f0 f1 f2 f3 f4 f5 i hi (f1 j) (f2 j)) hE (va_recv hK hP (ci := 4) (q0 := 0) rfl rfl) hP ⟨rfl, rfl, Nat.le_of_ble_eq_true rfl, Nat.le_of_ble_eq_true rfl⟩ rfl hl.1 rfl (Nat.le_of_ble_eq_true rfl) d_Md_areApart_385 ⟨Nat.zero_le _, Nat.zero_le _⟩)) (fun r_57 h_58 => ?_)
          refine lv_if_eq (tgt := 511) hx hb d_Md_areApart_388 (by decide) (fun c_59 => ?_) (fun c_59 => ?_)
          · refine lv_iconst (v := 1) hx hb d_Md_areApart_511 (by decide) ?_
            refine lv_goto (tgt := 516) hx hb d_Md_areApart_512 (by decide) ?_
            exact J _ (rf_T (Or.inl ⟨(h_13.t c_14), (h_58.f c_59)⟩))
          · refine lv_aload_n hx hb d_Md_areApart_391 rfl (lv_at hl 6 rfl) ?_
            refine lv_iload_n hx hb d_Md_areApart_392 rfl (lv_at hl 7 rfl) ?_
            refine lv_aload_n hx hb d_Md_areApart_393 rfl (lv_at hl 6 rfl) ?_
            refine va_get (D := D) (ci := 4) (v := .ref t3) (C := "RayFieldModel") (T := F_Md) (N := 18) hx hb hts in_Md hown hK hP 0 rfl rfl 4 (by decide) (hts _ w_284) (fun _ h9 => h9) rfl d_Md_areApart_394 ?_
            refine lv_iload_n hx hb d_Md_areApart_397 rfl (lv_at hl 8 rfl) ?_
            refine rf_iald hx hb hK hP 4 3 rfl rfl hj (by decide) d_Md_areApart_398 ?_
            refine lv_aload_n hx hb d_Md_areApart_399 rfl (lv_at hl 6 rfl) ?_
            refine va_get (D := D) (ci := 4) (v := .ref t4) (C := "RayFieldModel") (T := F_Md) (N := 18) hx hb hts in_Md hown hK hP 0 rfl rfl 5 (by decide) (hts _ w_285) (fun _ h9 => h9) rfl d_Md_areApart_400 ?_
            refine lv_iload_n hx hb d_Md_areApart_403 rfl (lv_at hl 8 rfl) ?_
            refine rf_iald hx hb hK hP 5 4 rfl rfl hj (by decide) d_Md_areApart_404 ?_
            refine vp_callSi (va_Run.run (rf_runV (As := [.int (nI i), .int (f3 j), .int (f4 j)]) (rest := []) S0 ml_Md_41 (c_Md_isOn l D y t0 t1 t2 t3 t4 t5 c0 c1 c2 c3 c4 c5 ma ha ex ey dx dy ab be ri o1 o2 f0 f1 f2 f3 f4 f5 i hi (f3 j) (f4 j)) hE (va_recv hK hP (ci := 4) (q0 := 0) rfl rfl) hP ⟨rfl, rfl, Nat.le_of_ble_eq_true rfl, Nat.le_of_ble_eq_true rfl⟩ rfl hl.1 rfl (Nat.le_of_ble_eq_true rfl) d_Md_areApart_405 ⟨Nat.zero_le _, Nat.zero_le _⟩)) (fun r_60 h_61 => ?_)
            refine lv_if_eq (tgt := 431) hx hb d_Md_areApart_408 (by decide) (fun c_62 => ?_) (fun c_62 => ?_)
            · refine lv_aload_n hx hb d_Md_areApart_431 rfl (lv_at hl 6 rfl) ?_
              refine lv_iload_n hx hb d_Md_areApart_432 rfl (lv_at hl 8 rfl) ?_
              refine lv_aload_n hx hb d_Md_areApart_433 rfl (lv_at hl 6 rfl) ?_
              refine va_get (D := D) (ci := 4) (v := .ref t1) (C := "RayFieldModel") (T := F_Md) (N := 18) hx hb hts in_Md hown hK hP 0 rfl rfl 2 (by decide) (hts _ w_282) (fun _ h9 => h9) rfl d_Md_areApart_434 ?_
              refine lv_iload_n hx hb d_Md_areApart_437 rfl (lv_at hl 7 rfl) ?_
              refine rf_iald hx hb hK hP 2 1 rfl rfl hi (by decide) d_Md_areApart_438 ?_
              refine lv_aload_n hx hb d_Md_areApart_439 rfl (lv_at hl 6 rfl) ?_
              refine va_get (D := D) (ci := 4) (v := .ref t2) (C := "RayFieldModel") (T := F_Md) (N := 18) hx hb hts in_Md hown hK hP 0 rfl rfl 3 (by decide) (hts _ w_283) (fun _ h9 => h9) rfl d_Md_areApart_440 ?_
              refine lv_iload_n hx hb d_Md_areApart_443 rfl (lv_at hl 7 rfl) ?_
              refine rf_iald hx hb hK hP 3 2 rfl rfl hi (by decide) d_Md_areApart_444 ?_
              refine vp_callSi (va_Run.run (rf_runV (As := [.int (nI j), .int (f1 i), .int (f2 i)]) (rest := []) S0 ml_Md_41 (c_Md_isOn l D y t0 t1 t2 t3 t4 t5 c0 c1 c2 c3 c4 c5 ma ha ex ey dx dy ab be ri o1 o2 f0 f1 f2 f3 f4 f5 j hj (f1 i) (f2 i)) hE (va_recv hK hP (ci := 4) (q0 := 0) rfl rfl) hP ⟨rfl, rfl, Nat.le_of_ble_eq_true rfl, Nat.le_of_ble_eq_true rfl⟩ rfl hl.1 rfl (Nat.le_of_ble_eq_true rfl) d_Md_areApart_445 ⟨Nat.zero_le _, Nat.zero_le _⟩)) (fun r_63 h_64 => ?_)
              refine lv_if_eq (tgt := 471) hx hb d_Md_areApart_448 (by decide) (fun c_65 => ?_) (fun c_65 => ?_)
              · refine lv_aload_n hx hb d_Md_areApart_471 rfl (lv_at hl 6 rfl) ?_
                refine lv_iload_n hx hb d_Md_areApart_472 rfl (lv_at hl 8 rfl) ?_
                refine lv_aload_n hx hb d_Md_areApart_473 rfl (lv_at hl 6 rfl) ?_
                refine va_get (D := D) (ci := 4) (v := .ref t3) (C := "RayFieldModel") (T := F_Md) (N := 18) hx hb hts in_Md hown hK hP 0 rfl rfl 4 (by decide) (hts _ w_284) (fun _ h9 => h9) rfl d_Md_areApart_474 ?_
                refine lv_iload_n hx hb d_Md_areApart_477 rfl (lv_at hl 7 rfl) ?_
                refine rf_iald hx hb hK hP 4 3 rfl rfl hi (by decide) d_Md_areApart_478 ?_
                refine lv_aload_n hx hb d_Md_areApart_479 rfl (lv_at hl 6 rfl) ?_
                refine va_get (D := D) (ci := 4) (v := .ref t4) (C := "RayFieldModel") (T := F_Md) (N := 18) hx hb hts in_Md hown hK hP 0 rfl rfl 5 (by decide) (hts _ w_285) (fun _ h9 => h9) rfl d_Md_areApart_480 ?_
                refine lv_iload_n hx hb d_Md_areApart_483 rfl (lv_at hl 7 rfl) ?_
                refine rf_iald hx hb hK hP 5 4 rfl rfl hi (by decide) d_Md_areApart_484 ?_
                refine vp_callSi (va_Run.run (rf_runV (As := [.int (nI j), .int (f3 i), .int (f4 i)]) (rest := []) S0 ml_Md_41 (c_Md_isOn l D y t0 t1 t2 t3 t4 t5 c0 c1 c2 c3 c4 c5 ma ha ex ey dx dy ab be ri o1 o2 f0 f1 f2 f3 f4 f5 j hj (f3 i) (f4 i)) hE (va_recv hK hP (ci := 4) (q0 := 0) rfl rfl) hP ⟨rfl, rfl, Nat.le_of_ble_eq_true rfl, Nat.le_of_ble_eq_true rfl⟩ rfl hl.1 rfl (Nat.le_of_ble_eq_true rfl) d_Md_areApart_485 ⟨Nat.zero_le _, Nat.zero_le _⟩)) (fun r_66 h_67 => ?_)
                refine lv_if_eq (tgt := 515) hx hb d_Md_areApart_488 (by decide) (fun c_68 => ?_) (fun c_68 => ?_)
                · refine lv_iconst (v := 0) hx hb d_Md_areApart_515 (by decide) ?_
                  exact J _ (rf_F (fun h => h.elim (fun h => (fun h => h (h_58.t c_59)) h.2) (fun h => h.elim (fun h => (h_61.f c_62) h.1) (fun h => h.elim (fun h => (h_64.f c_65) h.1) (fun h => (h_67.f c_68) h.1)))))
                · refine lv_aload_n hx hb d_Md_areApart_491 rfl (lv_at hl 6 rfl) ?_
                  refine lv_iload_n hx hb d_Md_areApart_492 rfl (lv_at hl 8 rfl) ?_
                  refine lv_aload_n hx hb d_Md_areApart_493 rfl (lv_at hl 6 rfl) ?_
                  refine va_get (D := D) (ci := 4) (v := .ref t3) (C := "RayFieldModel") (T := F_Md) (N := 18) hx hb hts in_Md hown hK hP 0 rfl rfl 4 (by decide) (hts _ w_284) (fun _ h9 => h9) rfl d_Md_areApart_494 ?_
                  refine lv_iload_n hx hb d_Md_areApart_497 rfl (lv_at hl 7 rfl) ?_
                  refine rf_iald hx hb hK hP 4 3 rfl rfl hi (by decide) d_Md_areApart_498 ?_
                  refine lv_aload_n hx hb d_Md_areApart_499 rfl (lv_at hl 6 rfl) ?_
                  refine va_get (D := D) (ci := 4) (v := .ref t4) (C := "RayFieldModel") (T := F_Md) (N := 18) hx hb hts in_Md hown hK hP 0 rfl rfl 5 (by decide) (hts _ w_285) (fun _ h9 => h9) rfl d_Md_areApart_500 ?_
                  refine lv_iload_n hx hb d_Md_areApart_503 rfl (lv_at hl 7 rfl) ?_
                  refine rf_iald hx hb hK hP 5 4 rfl rfl hi (by decide) d_Md_areApart_504 ?_
                  refine vp_callSi (va_Run.run (rf_runV (As := [.int (nI j), .int (f3 i), .int (f4 i)]) (rest := []) S0 ml_Md_37 (c_Md_isEnd l D y t0 t1 t2 t3 t4 t5 c0 c1 c2 c3 c4 c5 ma ha ex ey dx dy ab be ri o1 o2 f0 f1 f2 f3 f4 f5 j hj (f3 i) (f4 i)) hE (va_recv hK hP (ci := 4) (q0 := 0) rfl rfl) hP ⟨rfl, rfl, Nat.le_of_ble_eq_true rfl, Nat.le_of_ble_eq_true rfl⟩ rfl hl.1 rfl (Nat.le_of_ble_eq_true rfl) d_Md_areApart_505 ⟨Nat.zero_le _, Nat.zero_le _⟩)) (fun r_69 h_70 => ?_)
                  refine lv_if_ne (tgt := 515) hx hb d_Md_areApart_508 (by decide) (fun c_71 => ?_) (fun c_71 => ?_)
                  · refine lv_iconst (v := 0) hx hb d_Md_areApart_515 (by decide) ?_
                    exact J _ (rf_F (fun h => h.elim (fun h => (fun h => h (h_58.t c_59)) h.2) (fun h => h.elim (fun h => (h_61.f c_62) h.1) (fun h => h.elim (fun h => (h_64.f c_65) h.1) (fun h => (fun h => h (h_70.t c_71)) h.2)))))
                  · refine lv_iconst (v := 1) hx hb d_Md_areApart_511 (by decide) ?_
                    refine lv_goto (tgt := 516) hx hb d_Md_areApart_512 (by decide) ?_
                    exact J _ (rf_T (Or.inr (Or.inr (Or.inr ⟨(h_67.t c_68), (h_70.f c_71)⟩))))
              · refine lv_aload_n hx hb d_Md_areApart_451 rfl (lv_at hl 6 rfl) ?_
                refine lv_iload_n hx hb d_Md_areApart_452 rfl (lv_at hl 8 rfl) ?_
                refine lv_aload_n hx hb d_Md_areApart_453 rfl (lv_at hl 6 rfl) ?_
                refine va_get (D := D) (ci := 4) (v := .ref t1) (C := "RayFieldModel") (T := F_Md) (N := 18) hx hb hts in_Md hown hK hP 0 rfl rfl 2 (by decide) (hts _ w_282) (fun _ h9 => h9) rfl d_Md_areApart_454 ?_
                refine lv_iload_n hx hb d_Md_areApart_457 rfl (lv_at hl 7 rfl) ?_
                refine rf_iald hx hb hK hP 2 1 rfl rfl hi (by decide) d_Md_areApart_458 ?_
                refine lv_aload_n hx hb d_Md_areApart_459 rfl (lv_at hl 6 rfl) ?_
                refine va_get (D := D) (ci := 4) (v := .ref t2) (C := "RayFieldModel") (T := F_Md) (N := 18) hx hb hts in_Md hown hK hP 0 rfl rfl 3 (by decide) (hts _ w_283) (fun _ h9 => h9) rfl d_Md_areApart_460 ?_
                refine lv_iload_n hx hb d_Md_areApart_463 rfl (lv_at hl 7 rfl) ?_
                refine rf_iald hx hb hK hP 3 2 rfl rfl hi (by decide) d_Md_areApart_464 ?_
                refine vp_callSi (va_Run.run (rf_runV (As := [.int (nI j), .int (f1 i), .int (f2 i)]) (rest := []) S0 ml_Md_37 (c_Md_isEnd l D y t0 t1 t2 t3 t4 t5 c0 c1 c2 c3 c4 c5 ma ha ex ey dx dy ab be ri o1 o2 f0 f1 f2 f3 f4 f5 j hj (f1 i) (f2 i)) hE (va_recv hK hP (ci := 4) (q0 := 0) rfl rfl) hP ⟨rfl, rfl, Nat.le_of_ble_eq_true rfl, Nat.le_of_ble_eq_true rfl⟩ rfl hl.1 rfl (Nat.le_of_ble_eq_true rfl) d_Md_areApart_465 ⟨Nat.zero_le _, Nat.zero_le _⟩)) (fun r_72 h_73 => ?_)
                refine lv_if_eq (tgt := 511) hx hb d_Md_areApart_468 (by decide) (fun c_74 => ?_) (fun c_74 => ?_)
                · refine lv_iconst (v := 1) hx hb d_Md_areApart_511 (by decide) ?_
                  refine lv_goto (tgt := 516) hx hb d_Md_areApart_512 (by decide) ?_
                  exact J _ (rf_T (Or.inr (Or.inr (Or.inl ⟨(h_64.t c_65), (h_73.f c_74)⟩))))
                · refine lv_aload_n hx hb d_Md_areApart_471 rfl (lv_at hl 6 rfl) ?_
                  refine lv_iload_n hx hb d_Md_areApart_472 rfl (lv_at hl 8 rfl) ?_
                  refine lv_aload_n hx hb d_Md_areApart_473 rfl (lv_at hl 6 rfl) ?_
                  refine va_get (D := D) (ci := 4) (v := .ref t3) (C := "RayFieldModel") (T := F_Md) (N := 18) hx hb hts in_Md hown hK hP 0 rfl rfl 4 (by decide) (hts _ w_284) (fun _ h9 => h9) rfl d_Md_areApart_474 ?_
                  refine lv_iload_n hx hb d_Md_areApart_477 rfl (lv_at hl 7 rfl) ?_
                  refine rf_iald hx hb hK hP 4 3 rfl rfl hi (by decide) d_Md_areApart_478 ?_
                  refine lv_aload_n hx hb d_Md_areApart_479 rfl (lv_at hl 6 rfl) ?_
                  refine va_get (D := D) (ci := 4) (v := .ref t4) (C := "RayFieldModel") (T := F_Md) (N := 18) hx hb hts in_Md hown hK hP 0 rfl rfl 5 (by decide) (hts _ w_285) (fun _ h9 => h9) rfl d_Md_areApart_480 ?_
                  refine lv_iload_n hx hb d_Md_areApart_483 rfl (lv_at hl 7 rfl) ?_
                  refine rf_iald hx hb hK hP 5 4 rfl rfl hi (by decide) d_Md_areApart_484 ?_
                  refine vp_callSi (va_Run.run (rf_runV (As := [.int (nI j), .int (f3 i), .int (f4 i)]) (rest := []) S0 ml_Md_41 (c_Md_isOn l D y t0 t1 t2 t3 t4 t5 c0 c1 c2 c3 c4 c5 ma ha ex ey dx dy ab be ri o1 o2 f0 f1 f2 f3 f4 f5 j hj (f3 i) (f4 i)) hE (va_recv hK hP (ci := 4) (q0 := 0) rfl rfl) hP ⟨rfl, rfl, Nat.le_of_ble_eq_true rfl, Nat.le_of_ble_eq_true rfl⟩ rfl hl.1 rfl (Nat.le_of_ble_eq_true rfl) d_Md_areApart_485 ⟨Nat.zero_le _, Nat.zero_le _⟩)) (fun r_75 h_76 => ?_)
                  refine lv_if_eq (tgt := 515) hx hb d_Md_areApart_488 (by decide) (fun c_77 => ?_) (fun c_77 => ?_)
                  · refine lv_iconst (v := 0) hx hb d_Md_areApart_515 (by decide) ?_
                    exact J _ (rf_F (fun h => h.elim (fun h => (fun h => h (h_58.t c_59)) h.2) (fun h => h.elim (fun h => (h_61.f c_62) h.1) (fun h => h.elim (fun h => (fun h => h (h_73.t c_74)) h.2) (fun h => (h_76.f c_77) h.1)))))
                  · refine lv_aload_n hx hb d_Md_areApart_491 rfl (lv_at hl 6 rfl) ?_
                    refine lv_iload_n hx hb d_Md_areApart_492 rfl (lv_at hl 8 rfl) ?_
                    refine lv_aload_n hx hb d_Md_areApart_493 rfl (lv_at hl 6 rfl) ?_
                    refine va_get (D := D) (ci := 4) (v := .ref t3) (C := "RayFieldModel") (T := F_Md) (N := 18) hx hb hts in_Md hown hK hP 0 rfl rfl 4 (by decide) (hts _ w_284) (fun _ h9 => h9) rfl d_Md_areApart_494 ?_
                    refine lv_iload_n hx hb d_Md_areApart_497 rfl (lv_at hl 7 rfl) ?_
                    refine rf_iald hx hb hK hP 4 3 rfl rfl hi (by decide) d_Md_areApart_498 ?_
                    refine lv_aload_n hx hb d_Md_areApart_499 rfl (lv_at hl 6 rfl) ?_
                    refine va_get (D := D) (ci := 4) (v := .ref t4) (C := "RayFieldModel") (T := F_Md) (N := 18) hx hb hts in_Md hown hK hP 0 rfl rfl 5 (by decide) (hts _ w_285) (fun _ h9 => h9) rfl d_Md_areApart_500 ?_
                    refine lv_iload_n hx hb d_Md_areApart_503 rfl (lv_at hl 7 rfl) ?_
                    refine rf_iald hx hb hK hP 5 4 rfl rfl hi (by decide) d_Md_areApart_504 ?_
                    refine vp_callSi (va_Run.run (rf_runV (As := [.int (nI j), .int (f3 i), .int (f4 i)]) (rest := []) S0 ml_Md_37 (c_Md_isEnd l D y t0 t1 t2 t3 t4 t5 c0 c1 c2 c3 c4 c5 ma ha ex ey dx dy ab be ri o1 o2 f0 f1 f2 f3 f4 f5 j hj (f3 i) (f4 i)) hE (va_recv hK hP (ci := 4) (q0 := 0) rfl rfl) hP ⟨rfl, rfl, Nat.le_of_ble_eq_true rfl, Nat.le_of_ble_eq_true rfl⟩ rfl hl.1 rfl (Nat.le_of_ble_eq_true rfl) d_Md_areApart_505 ⟨Nat.zero_le _, Nat.zero_le _⟩)) (fun r_78 h_79 => ?_)
                    refine lv_if_ne (tgt := 515) hx hb d_Md_areApart_508 (by decide) (fun c_80 => ?_) (fun c_80 => ?_)
                    · refine lv_iconst (v := 0) hx hb d_Md_areApart_515 (by decide) ?_
                      exact J _ (rf_F (fun h => h.elim (fun h => (fun h => h (h_58.t c_59)) h.2) (fun h => h.elim (fun h => (h_61.f c_62) h.1) (fun h => h.elim (fun h => (fun h => h (h_73.t c_74)) h.2) (fun h => (fun h => h (h_79.t c_80)) h.2)))))
                    · refine lv_iconst (v := 1) hx hb d_Md_areApart_511 (by decide) ?_
                      refine lv_goto (tgt := 516) hx hb d_Md_areApart_512 (by decide) ?_
                      exact J _ (rf_T (Or.inr (Or.inr (Or.inr ⟨(h_76.t c_77), (h_79.f c_80)⟩))))
            · refine lv_aload_n hx hb d_Md_areApart_411 rfl (lv_at hl 6 rfl) ?_
              refine lv_iload_n hx hb d_Md_areApart_412 rfl (lv_at hl 7 rfl) ?_
              refine lv_aload_n hx hb d_Md_areApart_413 rfl (lv_at hl 6 rfl) ?_
              refine va_get (D := D) (ci := 4) (v := .ref t3) (C := "RayFieldModel") (T := F_Md) (N := 18) hx hb hts in_Md hown hK hP 0 rfl rfl 4 (by decide) (hts _ w_284) (fun _ h9 => h9) rfl d_Md_areApart_414 ?_
              refine lv_iload_n hx hb d_Md_areApart_417 rfl (lv_at hl 8 rfl) ?_
              refine rf_iald hx hb hK hP 4 3 rfl rfl hj (by decide) d_Md_areApart_418 ?_
              refine lv_aload_n hx hb d_Md_areApart_419 rfl (lv_at hl 6 rfl) ?_
              refine va_get (D := D) (ci := 4) (v := .ref t4) (C := "RayFieldModel") (T := F_Md) (N := 18) hx hb hts in_Md hown hK hP 0 rfl rfl 5 (by decide) (hts _ w_285) (fun _ h9 => h9) rfl d_Md_areApart_420 ?_
              refine lv_iload_n hx hb d_Md_areApart_423 rfl (lv_at hl 8 rfl) ?_
              refine rf_iald hx hb hK hP 5 4 rfl rfl hj (by decide) d_Md_areApart_424 ?_
              refine vp_callSi (va_Run.run (rf_runV (As := [.int (nI i), .int (f3 j), .int (f4 j)]) (rest := []) S0 ml_Md_37 (c_Md_isEnd l D y t0 t1 t2 t3 t4 t5 c0 c1 c2 c3 c4 c5 ma ha ex ey dx dy ab be ri o1 o2 f0 f1 f2 f3 f4 f5 i hi (f3 j) (f4 j)) hE (va_recv hK hP (ci := 4) (q0 := 0) rfl rfl) hP ⟨rfl, rfl, Nat.le_of_ble_eq_true rfl, Nat.le_of_ble_eq_true rfl⟩ rfl hl.1 rfl (Nat.le_of_ble_eq_true rfl) d_Md_areApart_425 ⟨Nat.zero_le _, Nat.zero_le _⟩)) (fun r_81 h_82 => ?_)
              refine lv_if_eq (tgt := 511) hx hb d_Md_areApart_428 (by decide) (fun c_83 => ?_) (fun c_83 => ?_)
              · refine lv_iconst (v := 1) hx hb d_Md_areApart_511 (by decide) ?_
                refine lv_goto (tgt := 516) hx hb d_Md_areApart_512 (by decide) ?_
                exact J _ (rf_T (Or.inr (Or.inl ⟨(h_61.t c_62), (h_82.f c_83)⟩)))
              · refine lv_aload_n hx hb d_Md_areApart_431 rfl (lv_at hl 6 rfl) ?_
                refine lv_iload_n hx hb d_Md_areApart_432 rfl (lv_at hl 8 rfl) ?_
                refine lv_aload_n hx hb d_Md_areApart_433 rfl (lv_at hl 6 rfl) ?_
                refine va_get (D := D) (ci := 4) (v := .ref t1) (C := "RayFieldModel") (T := F_Md) (N := 18) hx hb hts in_Md hown hK hP 0 rfl rfl 2 (by decide) (hts _ w_282) (fun _ h9 => h9) rfl d_Md_areApart_434 ?_
                refine lv_iload_n hx hb d_Md_areApart_437 rfl (lv_at hl 7 rfl) ?_
                refine rf_iald hx hb hK hP 2 1 rfl rfl hi (by decide) d_Md_areApart_438 ?_
                refine lv_aload_n hx hb d_Md_areApart_439 rfl (lv_at hl 6 rfl) ?_
                refine va_get (D := D) (ci := 4) (v := .ref t2) (C := "RayFieldModel") (T := F_Md) (N := 18) hx hb hts in_Md hown hK hP 0 rfl rfl 3 (by decide) (hts _ w_283) (fun _ h9 => h9) rfl d_Md_areApart_440 ?_
                refine lv_iload_n hx hb d_Md_areApart_443 rfl (lv_at hl 7 rfl) ?_
                refine rf_iald hx hb hK hP 3 2 rfl rfl hi (by decide) d_Md_areApart_444 ?_
                refine vp_callSi (va_Run.run (rf_runV (As := [.int (nI j), .int (f1 i), .int (f2 i)]) (rest := []) S0 ml_Md_41 (c_Md_isOn l D y t0 t1 t2 t3 t4 t5 c0 c1 c2 c3 c4 c5 ma ha ex ey dx dy ab be ri o1 o2 f0 f1 f2 f3 f4 f5 j hj (f1 i) (f2 i)) hE (va_recv hK hP (ci := 4) (q0 := 0) rfl rfl) hP ⟨rfl, rfl, Nat.le_of_ble_eq_true rfl, Nat.le_of_ble_eq_true rfl⟩ rfl hl.1 rfl (Nat.le_of_ble_eq_true rfl) d_Md_areApart_445 ⟨Nat.zero_le _, Nat.zero_le _⟩)) (fun r_84 h_85 => ?_)
                refine lv_if_eq (tgt := 471) hx hb d_Md_areApart_448 (by decide) (fun c_86 => ?_) (fun c_86 => ?_)
                · refine lv_aload_n hx hb d_Md_areApart_471 rfl (lv_at hl 6 rfl) ?_
                  refine lv_iload_n hx hb d_Md_areApart_472 rfl (lv_at hl 8 rfl) ?_
                  refine lv_aload_n hx hb d_Md_areApart_473 rfl (lv_at hl 6 rfl) ?_
                  refine va_get (D := D) (ci := 4) (v := .ref t3) (C := "RayFieldModel") (T := F_Md) (N := 18) hx hb hts in_Md hown hK hP 0 rfl rfl 4 (by decide) (hts _ w_284) (fun _ h9 => h9) rfl d_Md_areApart_474 ?_
                  refine lv_iload_n hx hb d_Md_areApart_477 rfl (lv_at hl 7 rfl) ?_
                  refine rf_iald hx hb hK hP 4 3 rfl rfl hi (by decide) d_Md_areApart_478 ?_
                  refine lv_aload_n hx hb d_Md_areApart_479 rfl (lv_at hl 6 rfl) ?_
                  refine va_get (D := D) (ci := 4) (v := .ref t4) (C := "RayFieldModel") (T := F_Md) (N := 18) hx hb hts in_Md hown hK hP 0 rfl rfl 5 (by decide) (hts _ w_285) (fun _ h9 => h9) rfl d_Md_areApart_480 ?_
                  refine lv_iload_n hx hb d_Md_areApart_483 rfl (lv_at hl 7 rfl) ?_
                  refine rf_iald hx hb hK hP 5 4 rfl rfl hi (by decide) d_Md_areApart_484 ?_
                  refine vp_callSi (va_Run.run (rf_runV (As := [.int (nI j), .int (f3 i), .int (f4 i)]) (rest := []) S0 ml_Md_41 (c_Md_isOn l D y t0 t1 t2 t3 t4 t5 c0 c1 c2 c3 c4 c5 ma ha ex ey dx dy ab be ri o1 o2 f0 f1 f2 f3 f4 f5 j hj (f3 i) (f4 i)) hE (va_recv hK hP (ci := 4) (q0 := 0) rfl rfl) hP ⟨rfl, rfl, Nat.le_of_ble_eq_true rfl, Nat.le_of_ble_eq_true rfl⟩ rfl hl.1 rfl (Nat.le_of_ble_eq_true rfl) d_Md_areApart_485 ⟨Nat.zero_le _, Nat.zero_le _⟩)) (fun r_87 h_88 => ?_)
                  refine lv_if_eq (tgt := 515) hx hb d_Md_areApart_488 (by decide) (fun c_89 => ?_) (fun c_89 => ?_)
                  · refine lv_iconst (v := 0) hx hb d_Md_areApart_515 (by decide) ?_
                    exact J _ (rf_F (fun h => h.elim (fun h => (fun h => h (h_58.t c_59)) h.2) (fun h => h.elim (fun h => (fun h => h (h_82.t c_83)) h.2) (fun h => h.elim (fun h => (h_85.f c_86) h.1) (fun h => (h_88.f c_89) h.1)))))
                  · refine lv_aload_n hx hb d_Md_areApart_491 rfl (lv_at hl 6 rfl) ?_
                    refine lv_iload_n hx hb d_Md_areApart_492 rfl (lv_at hl 8 rfl) ?_
                    refine lv_aload_n hx hb d_Md_areApart_493 rfl (lv_at hl 6 rfl) ?_
                    refine va_get (D := D) (ci := 4) (v := .ref t3) (C := "RayFieldModel") (T := F_Md) (N := 18) hx hb hts in_Md hown hK hP 0 rfl rfl 4 (by decide) (hts _ w_284) (fun _ h9 => h9) rfl d_Md_areApart_494 ?_
                    refine lv_iload_n hx hb d_Md_areApart_497 rfl (lv_at hl 7 rfl) ?_
                    refine rf_iald hx hb hK hP 4 3 rfl rfl hi (by decide) d_Md_areApart_498 ?_
                    refine lv_aload_n hx hb d_Md_areApart_499 rfl (lv_at hl 6 rfl) ?_
                    refine va_get (D := D) (ci := 4) (v := .ref t4) (C := "RayFieldModel") (T := F_Md) (N := 18) hx hb hts in_Md hown hK hP 0 rfl rfl 5 (by decide) (hts _ w_285) (fun _ h9 => h9) rfl d_Md_areApart_500 ?_
                    refine lv_iload_n hx hb d_Md_areApart_503 rfl (lv_at hl 7 rfl) ?_
                    refine rf_iald hx hb hK hP 5 4 rfl rfl hi (by decide) d_Md_areApart_504 ?_
                    refine vp_callSi (va_Run.run (rf_runV (As := [.int (nI j), .int (f3 i), .int (f4 i)]) (rest := []) S0 ml_Md_37 (c_Md_isEnd l D y t0 t1 t2 t3 t4 t5 c0 c1 c2 c3 c4 c5 ma ha ex ey dx dy ab be ri o1 o2 f0 f1 f2 f3 f4 f5 j hj (f3 i) (f4 i)) hE (va_recv hK hP (ci := 4) (q0 := 0) rfl rfl) hP ⟨rfl, rfl, Nat.le_of_ble_eq_true rfl, Nat.le_of_ble_eq_true rfl⟩ rfl hl.1 rfl (Nat.le_of_ble_eq_true rfl) d_Md_areApart_505 ⟨Nat.zero_le _, Nat.zero_le _⟩)) (fun r_90 h_91 => ?_)
                    refine lv_if_ne (tgt := 515) hx hb d_Md_areApart_508 (by decide) (fun c_92 => ?_) (fun c_92 => ?_)
                    · refine lv_iconst (v := 0) hx hb d_Md_areApart_515 (by decide) ?_
                      exact J _ (rf_F (fun h => h.elim (fun h => (fun h => h (h_58.t c_59)) h.2) (fun h => h.elim (fun h => (fun h => h (h_82.t c_83)) h.2) (fun h => h.elim (fun h => (h_85.f c_86) h.1) (fun h => (fun h => h (h_91.t c_92)) h.2)))))
                    · refine lv_iconst (v := 1) hx hb d_Md_areApart_511 (by decide) ?_
                      refine lv_goto (tgt := 516) hx hb d_Md_areApart_512 (by decide) ?_
                      exact J _ (rf_T (Or.inr (Or.inr (Or.inr ⟨(h_88.t c_89), (h_91.f c_92)⟩))))
                · refine lv_aload_n hx hb d_Md_areApart_451 rfl (lv_at hl 6 rfl) ?_
                  refine lv_iload_n hx hb d_Md_areApart_452 rfl (lv_at hl 8 rfl) ?_
                  refine lv_aload_n hx hb d_Md_areApart_453 rfl (lv_at hl 6 rfl) ?_
                  refine va_get (D := D) (ci := 4) (v := .ref t1) (C := "RayFieldModel") (T := F_Md) (N := 18) hx hb hts in_Md hown hK hP 0 rfl rfl 2 (by decide) (hts _ w_282) (fun _ h9 => h9) rfl d_Md_areApart_454 ?_
                  refine lv_iload_n hx hb d_Md_areApart_457 rfl (lv_at hl 7 rfl) ?_
                  refine rf_iald hx hb hK hP 2 1 rfl rfl hi (by decide) d_Md_areApart_458 ?_
                  refine lv_aload_n hx hb d_Md_areApart_459 rfl (lv_at hl 6 rfl) ?_
                  refine va_get (D := D) (ci := 4) (v := .ref t2) (C := "RayFieldModel") (T := F_Md) (N := 18) hx hb hts in_Md hown hK hP 0 rfl rfl 3 (by decide) (hts _ w_283) (fun _ h9 => h9) rfl d_Md_areApart_460 ?_
                  refine lv_iload_n hx hb d_Md_areApart_463 rfl (lv_at hl 7 rfl) ?_
                  refine rf_iald hx hb hK hP 3 2 rfl rfl hi (by decide) d_Md_areApart_464 ?_
                  refine vp_callSi (va_Run.run (rf_runV (As := [.int (nI j), .int (f1 i), .int (f2 i)]) (rest := []) S0 ml_Md_37 (c_Md_isEnd l D y t0 t1 t2 t3 t4 t5 c0 c1 c2 c3 c4 c5 ma ha ex ey dx dy ab be ri o1 o2 f0 f1 f2 f3 f4 f5 j hj (f1 i) (f2 i)) hE (va_recv hK hP (ci := 4) (q0 := 0) rfl rfl) hP ⟨rfl, rfl, Nat.le_of_ble_eq_true rfl, Nat.le_of_ble_eq_true rfl⟩ rfl hl.1 rfl (Nat.le_of_ble_eq_true rfl) d_Md_areApart_465 ⟨Nat.zero_le _, Nat.zero_le _⟩)) (fun r_93 h_94 => ?_)
                  refine lv_if_eq (tgt := 511) hx hb d_Md_areApart_468 (by decide) (fun c_95 => ?_) (fun c_95 => ?_)
                  · refine lv_iconst (v := 1) hx hb d_Md_areApart_511 (by decide) ?_
                    refine lv_goto (tgt := 516) hx hb d_Md_areApart_512 (by decide) ?_
                    exact J _ (rf_T (Or.inr (Or.inr (Or.inl ⟨(h_85.t c_86), (h_94.f c_95)⟩))))
                  · refine lv_aload_n hx hb d_Md_areApart_471 rfl (lv_at hl 6 rfl) ?_
                    refine lv_iload_n hx hb d_Md_areApart_472 rfl (lv_at hl 8 rfl) ?_
                    refine lv_aload_n hx hb d_Md_areApart_473 rfl (lv_at hl 6 rfl) ?_
                    refine va_get (D := D) (ci := 4) (v := .ref t3) (C := "RayFieldModel") (T := F_Md) (N := 18) hx hb hts in_Md hown hK hP 0 rfl rfl 4 (by decide) (hts _ w_284) (fun _ h9 => h9) rfl d_Md_areApart_474 ?_
                    refine lv_iload_n hx hb d_Md_areApart_477 rfl (lv_at hl 7 rfl) ?_
                    refine rf_iald hx hb hK hP 4 3 rfl rfl hi (by decide) d_Md_areApart_478 ?_
                    refine lv_aload_n hx hb d_Md_areApart_479 rfl (lv_at hl 6 rfl) ?_
                    refine va_get (D := D) (ci := 4) (v := .ref t4) (C := "RayFieldModel") (T := F_Md) (N := 18) hx hb hts in_Md hown hK hP 0 rfl rfl 5 (by decide) (hts _ w_285) (fun _ h9 => h9) rfl d_Md_areApart_480 ?_
                    refine lv_iload_n hx hb d_Md_areApart_483 rfl (lv_at hl 7 rfl) ?_
                    refine rf_iald hx hb hK hP 5 4 rfl rfl hi (by decide) d_Md_areApart_484 ?_
                    refine vp_callSi (va_Run.run (rf_runV (As := [.int (nI j), .int (f3 i), .int (f4 i)]) (rest := []) S0 ml_Md_41 (c_Md_isOn l D y t0 t1 t2 t3 t4 t5 c0 c1 c2 c3 c4 c5 ma ha ex ey dx dy ab be ri o1 o2 f0 f1 f2 f3 f4 f5 j hj (f3 i) (f4 i)) hE (va_recv hK hP (ci := 4) (q0 := 0) rfl rfl) hP ⟨rfl, rfl, Nat.le_of_ble_eq_true rfl, Nat.le_of_ble_eq_true rfl⟩ rfl hl.1 rfl (Nat.le_of_ble_eq_true rfl) d_Md_areApart_485 ⟨Nat.zero_le _, Nat.zero_le _⟩)) (fun r_96 h_97 => ?_)
                    refine lv_if_eq (tgt := 515) hx hb d_Md_areApart_488 (by decide) (fun c_98 => ?_) (fun c_98 => ?_)
                    · refine lv_iconst (v := 0) hx hb d_Md_areApart_515 (by decide) ?_
                      exact J _ (rf_F (fun h => h.elim (fun h => (fun h => h (h_58.t c_59)) h.2) (fun h => h.elim (fun h => (fun h => h (h_82.t c_83)) h.2) (fun h => h.elim (fun h => (fun h => h (h_94.t c_95)) h.2) (fun h => (h_97.f c_98) h.1)))))
                    · refine lv_aload_n hx hb d_Md_areApart_491 rfl (lv_at hl 6 rfl) ?_
                      refine lv_iload_n hx hb d_Md_areApart_492 rfl (lv_at hl 8 rfl) ?_
                      refine lv_aload_n hx hb d_Md_areApart_493 rfl (lv_at hl 6 rfl) ?_
                      refine va_get (D := D) (ci := 4) (v := .ref t3) (C := "RayFieldModel") (T := F_Md) (N := 18) hx hb hts in_Md hown hK hP 0 rfl rfl 4 (by decide) (hts _ w_284) (fun _ h9 => h9) rfl d_Md_areApart_494 ?_
                      refine lv_iload_n hx hb d_Md_areApart_497 rfl (lv_at hl 7 rfl) ?_
                      refine rf_iald hx hb hK hP 4 3 rfl rfl hi (by decide) d_Md_areApart_498 ?_
                      refine lv_aload_n hx hb d_Md_areApart_499 rfl (lv_at hl 6 rfl) ?_
                      refine va_get (D := D) (ci := 4) (v := .ref t4) (C := "RayFieldModel") (T := F_Md) (N := 18) hx hb hts in_Md hown hK hP 0 rfl rfl 5 (by decide) (hts _ w_285) (fun _ h9 => h9) rfl d_Md_areApart_500 ?_
                      refine lv_iload_n hx hb d_Md_areApart_503 rfl (lv_at hl 7 rfl) ?_
                      refine rf_iald hx hb hK hP 5 4 rfl rfl hi (by decide) d_Md_areApart_504 ?_
                      refine vp_callSi (va_Run.run (rf_runV (As := [.int (nI j), .int (f3 i), .int (f4 i)]) (rest := []) S0 ml_Md_37 (c_Md_isEnd l D y t0 t1 t2 t3 t4 t5 c0 c1 c2 c3 c4 c5 ma ha ex ey dx dy ab be ri o1 o2 f0 f1 f2 f3 f4 f5 j hj (f3 i) (f4 i)) hE (va_recv hK hP (ci := 4) (q0 := 0) rfl rfl) hP ⟨rfl, rfl, Nat.le_of_ble_eq_true rfl, Nat.le_of_ble_eq_true rfl⟩ rfl hl.1 rfl (Nat.le_of_ble_eq_true rfl) d_Md_areApart_505 ⟨Nat.zero_le _, Nat.zero_le _⟩)) (fun r_99 h_100 => ?_)
                      refine lv_if_ne (tgt := 515) hx hb d_Md_areApart_508 (by decide) (fun c_101 => ?_) (fun c_101 => ?_)
                      · refine lv_iconst (v := 0) hx hb d_Md_areApart_515 (by decide) ?_
                        exact J _ (rf_F (fun h => h.elim (fun h => (fun h => h (h_58.t c_59)) h.2) (fun h => h.elim (fun h => (fun h => h (h_82.t c_83)) h.2) (fun h => h.elim (fun h => (fun h => h (h_94.t c_95)) h.2) (fun h => (fun h => h (h_100.t c_101)) h.2)))))
                      · refine lv_iconst (v := 1) hx hb d_Md_areApart_511 (by decide) ?_
                        refine lv_goto (tgt := 516) hx hb d_Md_areApart_512 (by decide) ?_
                        exact J _ (rf_T (Or.inr (Or.inr (Or.inr ⟨(h_97.t c_98), (h_100.f c_101)⟩))))
    · refine lv_aload_n hx hb d_Md_areApart_304 rfl (lv_at hl 5 rfl) ?_
      refine lv_iload_n hx hb d_Md_areApart_305 rfl (lv_at hl 7 rfl) ?_
      refine lv_aload_n hx hb d_Md_areApart_306 rfl (lv_at hl 5 rfl) ?_
      refine va_get (D := D) (ci := 4) (v := .ref t1) (C := "RayFieldModel") (T := F_Md) (N := 18) hx hb hts in_Md hown hK hP 0 rfl rfl 2 (by decide) (hts _ w_282) (fun _ h9 => h9) rfl d_Md_areApart_307 ?_
      refine lv_iload_n hx hb d_Md_areApart_310 rfl (lv_at hl 6 rfl) ?_
      refine rf_iald hx hb hK hP 2 1 rfl rfl hi (by decide) d_Md_areApart_311 ?_
      refine lv_aload_n hx hb d_Md_areApart_312 rfl (lv_at hl 5 rfl) ?_
      refine va_get (D := D) (ci := 4) (v := .ref t2) (C := "RayFieldModel") (T := F_Md) (N := 18) hx hb hts in_Md hown hK hP 0 rfl rfl 3 (by decide) (hts _ w_283) (fun _ h9 => h9) rfl d_Md_areApart_313 ?_
      refine lv_iload_n hx hb d_Md_areApart_316 rfl (lv_at hl 6 rfl) ?_
      refine rf_iald hx hb hK hP 3 2 rfl rfl hi (by decide) d_Md_areApart_317 ?_
      refine vp_callSi (va_Run.run (rf_runV (As := [.int (nI j), .int (f1 i), .int (f2 i)]) (rest := []) S0 ml_Md_37 (c_Md_isEnd l D y t0 t1 t2 t3 t4 t5 c0 c1 c2 c3 c4 c5 ma ha ex ey dx dy ab be ri o1 o2 f0 f1 f2 f3 f4 f5 j hj (f1 i) (f2 i)) hE (va_recv hK hP (ci := 4) (q0 := 0) rfl rfl) hP ⟨rfl, rfl, Nat.le_of_ble_eq_true rfl, Nat.le_of_ble_eq_true rfl⟩ rfl hl.1 rfl (Nat.le_of_ble_eq_true rfl) d_Md_areApart_318 ⟨Nat.zero_le _, Nat.zero_le _⟩)) (fun r_102 h_103 => ?_)
      refine lv_if_eq (tgt := 348) hx hb d_Md_areApart_321 (by decide) (fun c_104 => ?_) (fun c_104 => ?_)
      · refine lv_iconst (v := 0) hx hb d_Md_areApart_348 (by decide) ?_
        exact J _ (rf_F (fun h => (h_103.f c_104) h.1))
      · refine lv_aload_n hx hb d_Md_areApart_324 rfl (lv_at hl 5 rfl) ?_
        refine lv_iload_n hx hb d_Md_areApart_325 rfl (lv_at hl 7 rfl) ?_
        refine lv_aload_n hx hb d_Md_areApart_326 rfl (lv_at hl 5 rfl) ?_
        refine va_get (D := D) (ci := 4) (v := .ref t3) (C := "RayFieldModel") (T := F_Md) (N := 18) hx hb hts in_Md hown hK hP 0 rfl rfl 4 (by decide) (hts _ w_284) (fun _ h9 => h9) rfl d_Md_areApart_327 ?_
        refine lv_iload_n hx hb d_Md_areApart_330 rfl (lv_at hl 6 rfl) ?_
        refine rf_iald hx hb hK hP 4 3 rfl rfl hi (by decide) d_Md_areApart_331 ?_
        refine lv_aload_n hx hb d_Md_areApart_332 rfl (lv_at hl 5 rfl) ?_
        refine va_get (D := D) (ci := 4) (v := .ref t4) (C := "RayFieldModel") (T := F_Md) (N := 18) hx hb hts in_Md hown hK hP 0 rfl rfl 5 (by decide) (hts _ w_285) (fun _ h9 => h9) rfl d_Md_areApart_333 ?_
        refine lv_iload_n hx hb d_Md_areApart_336 rfl (lv_at hl 6 rfl) ?_
        refine rf_iald hx hb hK hP 5 4 rfl rfl hi (by decide) d_Md_areApart_337 ?_
        refine vp_callSi (va_Run.run (rf_runV (As := [.int (nI j), .int (f3 i), .int (f4 i)]) (rest := []) S0 ml_Md_37 (c_Md_isEnd l D y t0 t1 t2 t3 t4 t5 c0 c1 c2 c3 c4 c5 ma ha ex ey dx dy ab be ri o1 o2 f0 f1 f2 f3 f4 f5 j hj (f3 i) (f4 i)) hE (va_recv hK hP (ci := 4) (q0 := 0) rfl rfl) hP ⟨rfl, rfl, Nat.le_of_ble_eq_true rfl, Nat.le_of_ble_eq_true rfl⟩ rfl hl.1 rfl (Nat.le_of_ble_eq_true rfl) d_Md_areApart_338 ⟨Nat.zero_le _, Nat.zero_le _⟩)) (fun r_105 h_106 => ?_)
        refine lv_if_eq (tgt := 348) hx hb d_Md_areApart_341 (by decide) (fun c_107 => ?_) (fun c_107 => ?_)
        · refine lv_iconst (v := 0) hx hb d_Md_areApart_348 (by decide) ?_
          exact J _ (rf_F (fun h => (h_106.f c_107) h.2))
        · refine lv_iconst (v := 1) hx hb d_Md_areApart_344 (by decide) ?_
          refine lv_goto (tgt := 349) hx hb d_Md_areApart_345 (by decide) ?_
          exact J _ (rf_T ⟨(h_103.t c_104), (h_106.t c_107)⟩)
  · refine lv_lload_n hx hb d_Md_areApart_243 rfl (lv_at hl 3 rfl) ?_
    refine lv_lconst (v := 0) hx hb d_Md_areApart_244 (by decide) ?_
    refine rf_lcmp_ge (tgt := 256) hx hb d_Md_areApart_245 d_Md_areApart_246 (by decide) (fun c_108 => ?_) (fun c_108 => ?_)
    · refine lv_lload_n hx hb d_Md_areApart_256 rfl (lv_at hl 3 rfl) ?_
      refine lv_lconst (v := 0) hx hb d_Md_areApart_257 (by decide) ?_
      refine rf_lcmp_le (tgt := 301) hx hb d_Md_areApart_258 d_Md_areApart_259 (by decide) (fun c_109 => ?_) (fun c_109 => ?_)
      · refine lv_iconst (v := 0) hx hb d_Md_areApart_301 (by decide) ?_
        exact J _ (rf_F (fun h => (fun h => h.elim (fun h => (Int64.not_lt.mpr c_108) h.1) (fun h => (Int64.not_lt.mpr c_109) h.1)) h.1))
      · refine lv_lload hx hb d_Md_areApart_262 (lv_at hl 2 rfl) ?_
        refine lv_lconst (v := 0) hx hb d_Md_areApart_264 (by decide) ?_
        refine rf_lcmp_ge (tgt := 301) hx hb d_Md_areApart_265 d_Md_areApart_266 (by decide) (fun c_110 => ?_) (fun c_110 => ?_)
        · refine lv_iconst (v := 0) hx hb d_Md_areApart_301 (by decide) ?_
          exact J _ (rf_F (fun h => (fun h => h.elim (fun h => (Int64.not_lt.mpr c_108) h.1) (fun h => (Int64.not_lt.mpr c_110) h.2)) h.1))
        · refine lv_lload hx hb d_Md_areApart_269 (lv_at hl 1 rfl) ?_
          refine lv_lconst (v := 0) hx hb d_Md_areApart_271 (by decide) ?_
          refine rf_lcmp_ge (tgt := 283) hx hb d_Md_areApart_272 d_Md_areApart_273 (by decide) (fun c_111 => ?_) (fun c_111 => ?_)
          · refine lv_lload hx hb d_Md_areApart_283 (lv_at hl 1 rfl) ?_
            refine lv_lconst (v := 0) hx hb d_Md_areApart_285 (by decide) ?_
            refine rf_lcmp_le (tgt := 301) hx hb d_Md_areApart_286 d_Md_areApart_287 (by decide) (fun c_112 => ?_) (fun c_112 => ?_)
            · refine lv_iconst (v := 0) hx hb d_Md_areApart_301 (by decide) ?_
              exact J _ (rf_F (fun h => (fun h => h.elim (fun h => (Int64.not_lt.mpr c_111) h.1) (fun h => (Int64.not_lt.mpr c_112) h.1)) h.2))
            · refine lv_lload hx hb d_Md_areApart_290 (lv_at hl 0 rfl) ?_
              refine lv_lconst (v := 0) hx hb d_Md_areApart_292 (by decide) ?_
              refine rf_lcmp_ge (tgt := 301) hx hb d_Md_areApart_293 d_Md_areApart_294 (by decide) (fun c_113 => ?_) (fun c_113 => ?_)
              · refine lv_iconst (v := 0) hx hb d_Md_areApart_301 (by decide) ?_
                exact J _ (rf_F (fun h => (fun h => h.elim (fun h => (Int64.not_lt.mpr c_111) h.1) (fun h => (Int64.not_lt.mpr c_113) h.2)) h.2))
              · refine lv_iconst (v := 1) hx hb d_Md_areApart_297 (by decide) ?_
                refine lv_goto (tgt := 302) hx hb d_Md_areApart_298 (by decide) ?_
                exact J _ (rf_T ⟨(Or.inr ⟨(Int64.not_le.mp c_109), (Int64.not_le.mp c_110)⟩), (Or.inr ⟨(Int64.not_le.mp c_112), (Int64.not_le.mp c_113)⟩)⟩)
          · refine lv_lload hx hb d_Md_areApart_276 (lv_at hl 0 rfl) ?_
            refine lv_lconst (v := 0) hx hb d_Md_areApart_278 (by decide) ?_
            refine rf_lcmp_gt (tgt := 297) hx hb d_Md_areApart_279 d_Md_areApart_280 (by decide) (fun c_114 => ?_) (fun c_114 => ?_)
            · refine lv_iconst (v := 1) hx hb d_Md_areApart_297 (by decide) ?_
              refine lv_goto (tgt := 302) hx hb d_Md_areApart_298 (by decide) ?_
              exact J _ (rf_T ⟨(Or.inr ⟨(Int64.not_le.mp c_109), (Int64.not_le.mp c_110)⟩), (Or.inl ⟨(Int64.not_le.mp c_111), c_114⟩)⟩)
            · refine lv_lload hx hb d_Md_areApart_283 (lv_at hl 1 rfl) ?_
              refine lv_lconst (v := 0) hx hb d_Md_areApart_285 (by decide) ?_
              refine rf_lcmp_le (tgt := 301) hx hb d_Md_areApart_286 d_Md_areApart_287 (by decide) (fun c_115 => ?_) (fun c_115 => ?_)
              · refine lv_iconst (v := 0) hx hb d_Md_areApart_301 (by decide) ?_
                exact J _ (rf_F (fun h => (fun h => h.elim (fun h => c_114 h.2) (fun h => (Int64.not_lt.mpr c_115) h.1)) h.2))
              · refine lv_lload hx hb d_Md_areApart_290 (lv_at hl 0 rfl) ?_
                refine lv_lconst (v := 0) hx hb d_Md_areApart_292 (by decide) ?_
                refine rf_lcmp_ge (tgt := 301) hx hb d_Md_areApart_293 d_Md_areApart_294 (by decide) (fun c_116 => ?_) (fun c_116 => ?_)
                · refine lv_iconst (v := 0) hx hb d_Md_areApart_301 (by decide) ?_
                  exact J _ (rf_F (fun h => (fun h => h.elim (fun h => c_114 h.2) (fun h => (Int64.not_lt.mpr c_116) h.2)) h.2))
                · refine lv_iconst (v := 1) hx hb d_Md_areApart_297 (by decide) ?_
                  refine lv_goto (tgt := 302) hx hb d_Md_areApart_298 (by decide) ?_
                  exact J _ (rf_T ⟨(Or.inr ⟨(Int64.not_le.mp c_109), (Int64.not_le.mp c_110)⟩), (Or.inr ⟨(Int64.not_le.mp c_115), (Int64.not_le.mp c_116)⟩)⟩)
    · refine lv_lload hx hb d_Md_areApart_249 (lv_at hl 2 rfl) ?_
      refine lv_lconst (v := 0) hx hb d_Md_areApart_251 (by decide) ?_
      refine rf_lcmp_gt (tgt := 269) hx hb d_Md_areApart_252 d_Md_areApart_253 (by decide) (fun c_117 => ?_) (fun c_117 => ?_)
      · refine lv_lload hx hb d_Md_areApart_269 (lv_at hl 1 rfl) ?_
        refine lv_lconst (v := 0) hx hb d_Md_areApart_271 (by decide) ?_
        refine rf_lcmp_ge (tgt := 283) hx hb d_Md_areApart_272 d_Md_areApart_273 (by decide) (fun c_118 => ?_) (fun c_118 => ?_)
        · refine lv_lload hx hb d_Md_areApart_283 (lv_at hl 1 rfl) ?_
          refine lv_lconst (v := 0) hx hb d_Md_areApart_285 (by decide) ?_
          refine rf_lcmp_le (tgt := 301) hx hb d_Md_areApart_286 d_Md_areApart_287 (by decide) (fun c_119 => ?_) (fun c_119 => ?_)
          · refine lv_iconst (v := 0) hx hb d_Md_areApart_301 (by decide) ?_
            exact J _ (rf_F (fun h => (fun h => h.elim (fun h => (Int64.not_lt.mpr c_118) h.1) (fun h => (Int64.not_lt.mpr c_119) h.1)) h.2))
          · refine lv_lload hx hb d_Md_areApart_290 (lv_at hl 0 rfl) ?_
            refine lv_lconst (v := 0) hx hb d_Md_areApart_292 (by decide) ?_
            refine rf_lcmp_ge (tgt := 301) hx hb d_Md_areApart_293 d_Md_areApart_294 (by decide) (fun c_120 => ?_) (fun c_120 => ?_)
            · refine lv_iconst (v := 0) hx hb d_Md_areApart_301 (by decide) ?_
              exact J _ (rf_F (fun h => (fun h => h.elim (fun h => (Int64.not_lt.mpr c_118) h.1) (fun h => (Int64.not_lt.mpr c_120) h.2)) h.2))
            · refine lv_iconst (v := 1) hx hb d_Md_areApart_297 (by decide) ?_
              refine lv_goto (tgt := 302) hx hb d_Md_areApart_298 (by decide) ?_
              exact J _ (rf_T ⟨(Or.inl ⟨(Int64.not_le.mp c_108), c_117⟩), (Or.inr ⟨(Int64.not_le.mp c_119), (Int64.not_le.mp c_120)⟩)⟩)
        · refine lv_lload hx hb d_Md_areApart_276 (lv_at hl 0 rfl) ?_
          refine lv_lconst (v := 0) hx hb d_Md_areApart_278 (by decide) ?_
          refine rf_lcmp_gt (tgt := 297) hx hb d_Md_areApart_279 d_Md_areApart_280 (by decide) (fun c_121 => ?_) (fun c_121 => ?_)
          · refine lv_iconst (v := 1) hx hb d_Md_areApart_297 (by decide) ?_
            refine lv_goto (tgt := 302) hx hb d_Md_areApart_298 (by decide) ?_
            exact J _ (rf_T ⟨(Or.inl ⟨(Int64.not_le.mp c_108), c_117⟩), (Or.inl ⟨(Int64.not_le.mp c_118), c_121⟩)⟩)
          · refine lv_lload hx hb d_Md_areApart_283 (lv_at hl 1 rfl) ?_
            refine lv_lconst (v := 0) hx hb d_Md_areApart_285 (by decide) ?_
            refine rf_lcmp_le (tgt := 301) hx hb d_Md_areApart_286 d_Md_areApart_287 (by decide) (fun c_122 => ?_) (fun c_122 => ?_)
            · refine lv_iconst (v := 0) hx hb d_Md_areApart_301 (by decide) ?_
              exact J _ (rf_F (fun h => (fun h => h.elim (fun h => c_121 h.2) (fun h => (Int64.not_lt.mpr c_122) h.1)) h.2))
            · refine lv_lload hx hb d_Md_areApart_290 (lv_at hl 0 rfl) ?_
              refine lv_lconst (v := 0) hx hb d_Md_areApart_292 (by decide) ?_
              refine rf_lcmp_ge (tgt := 301) hx hb d_Md_areApart_293 d_Md_areApart_294 (by decide) (fun c_123 => ?_) (fun c_123 => ?_)
              · refine lv_iconst (v := 0) hx hb d_Md_areApart_301 (by decide) ?_
                exact J _ (rf_F (fun h => (fun h => h.elim (fun h => c_121 h.2) (fun h => (Int64.not_lt.mpr c_123) h.2)) h.2))
              · refine lv_iconst (v := 1) hx hb d_Md_areApart_297 (by decide) ?_
                refine lv_goto (tgt := 302) hx hb d_Md_areApart_298 (by decide) ?_
                exact J _ (rf_T ⟨(Or.inl ⟨(Int64.not_le.mp c_108), c_117⟩), (Or.inr ⟨(Int64.not_le.mp c_122), (Int64.not_le.mp c_123)⟩)⟩)
      · refine lv_lload_n hx hb d_Md_areApart_256 rfl (lv_at hl 3 rfl) ?_
        refine lv_lconst (v := 0) hx hb d_Md_areApart_257 (by decide) ?_
        refine rf_lcmp_le (tgt := 301) hx hb d_Md_areApart_258 d_Md_areApart_259 (by decide) (fun c_124 => ?_) (fun c_124 => ?_)
        · refine lv_iconst (v := 0) hx hb d_Md_areApart_301 (by decide) ?_
          exact J _ (rf_F (fun h => (fun h => h.elim (fun h => c_117 h.2) (fun h => (Int64.not_lt.mpr c_124) h.1)) h.1))
        · refine lv_lload hx hb d_Md_areApart_262 (lv_at hl 2 rfl) ?_
          refine lv_lconst (v := 0) hx hb d_Md_areApart_264 (by decide) ?_
          refine rf_lcmp_ge (tgt := 301) hx hb d_Md_areApart_265 d_Md_areApart_266 (by decide) (fun c_125 => ?_) (fun c_125 => ?_)
          · refine lv_iconst (v := 0) hx hb d_Md_areApart_301 (by decide) ?_
            exact J _ (rf_F (fun h => (fun h => h.elim (fun h => c_117 h.2) (fun h => (Int64.not_lt.mpr c_125) h.2)) h.1))
          · refine lv_lload hx hb d_Md_areApart_269 (lv_at hl 1 rfl) ?_
            refine lv_lconst (v := 0) hx hb d_Md_areApart_271 (by decide) ?_
            refine rf_lcmp_ge (tgt := 283) hx hb d_Md_areApart_272 d_Md_areApart_273 (by decide) (fun c_126 => ?_) (fun c_126 => ?_)
            · refine lv_lload hx hb d_Md_areApart_283 (lv_at hl 1 rfl) ?_
              refine lv_lconst (v := 0) hx hb d_Md_areApart_285 (by decide) ?_
              refine rf_lcmp_le (tgt := 301) hx hb d_Md_areApart_286 d_Md_areApart_287 (by decide) (fun c_127 => ?_) (fun c_127 => ?_)
              · refine lv_iconst (v := 0) hx hb d_Md_areApart_301 (by decide) ?_
                exact J _ (rf_F (fun h => (fun h => h.elim (fun h => (Int64.not_lt.mpr c_126) h.1) (fun h => (Int64.not_lt.mpr c_127) h.1)) h.2))
              · refine lv_lload hx hb d_Md_areApart_290 (lv_at hl 0 rfl) ?_
                refine lv_lconst (v := 0) hx hb d_Md_areApart_292 (by decide) ?_
                refine rf_lcmp_ge (tgt := 301) hx hb d_Md_areApart_293 d_Md_areApart_294 (by decide) (fun c_128 => ?_) (fun c_128 => ?_)
                · refine lv_iconst (v := 0) hx hb d_Md_areApart_301 (by decide) ?_
                  exact J _ (rf_F (fun h => (fun h => h.elim (fun h => (Int64.not_lt.mpr c_126) h.1) (fun h => (Int64.not_lt.mpr c_128) h.2)) h.2))
                · refine lv_iconst (v := 1) hx hb d_Md_areApart_297 (by decide) ?_
                  refine lv_goto (tgt := 302) hx hb d_Md_areApart_298 (by decide) ?_
                  exact J _ (rf_T ⟨(Or.inr ⟨(Int64.not_le.mp c_124), (Int64.not_le.mp c_125)⟩), (Or.inr ⟨(Int64.not_le.mp c_127), (Int64.not_le.mp c_128)⟩)⟩)
            · refine lv_lload hx hb d_Md_areApart_276 (lv_at hl 0 rfl) ?_
              refine lv_lconst (v := 0) hx hb d_Md_areApart_278 (by decide) ?_
              refine rf_lcmp_gt (tgt := 297) hx hb d_Md_areApart_279 d_Md_areApart_280 (by decide) (fun c_129 => ?_) (fun c_129 => ?_)
              · refine lv_iconst (v := 1) hx hb d_Md_areApart_297 (by decide) ?_
                refine lv_goto (tgt := 302) hx hb d_Md_areApart_298 (by decide) ?_
                exact J _ (rf_T ⟨(Or.inr ⟨(Int64.not_le.mp c_124), (Int64.not_le.mp c_125)⟩), (Or.inl ⟨(Int64.not_le.mp c_126), c_129⟩)⟩)
              · refine lv_lload hx hb d_Md_areApart_283 (lv_at hl 1 rfl) ?_
                refine lv_lconst (v := 0) hx hb d_Md_areApart_285 (by decide) ?_
                refine rf_lcmp_le (tgt := 301) hx hb d_Md_areApart_286 d_Md_areApart_287 (by decide) (fun c_130 => ?_) (fun c_130 => ?_)
                · refine lv_iconst (v := 0) hx hb d_Md_areApart_301 (by decide) ?_
                  exact J _ (rf_F (fun h => (fun h => h.elim (fun h => c_129 h.2) (fun h => (Int64.not_lt.mpr c_130) h.1)) h.2))
                · refine lv_lload hx hb d_Md_areApart_290 (lv_at hl 0 rfl) ?_
                  refine lv_lconst (v := 0) hx hb d_Md_areApart_292 (by decide) ?_
                  refine rf_lcmp_ge (tgt := 301) hx hb d_Md_areApart_293 d_Md_areApart_294 (by decide) (fun c_131 => ?_) (fun c_131 => ?_)
                  · refine lv_iconst (v := 0) hx hb d_Md_areApart_301 (by decide) ?_
                    exact J _ (rf_F (fun h => (fun h => h.elim (fun h => c_129 h.2) (fun h => (Int64.not_lt.mpr c_131) h.2)) h.2))
                  · refine lv_iconst (v := 1) hx hb d_Md_areApart_297 (by decide) ?_
                    refine lv_goto (tgt := 302) hx hb d_Md_areApart_298 (by decide) ?_
                    exact J _ (rf_T ⟨(Or.inr ⟨(Int64.not_le.mp c_124), (Int64.not_le.mp c_125)⟩), (Or.inr ⟨(Int64.not_le.mp c_130), (Int64.not_le.mp c_131)⟩)⟩)
