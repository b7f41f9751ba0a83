/-! My own rows over the kit: one list of words for all methods, calls by contract, joins, loops. -/
theorem big_good {cy : Cond} (h : cy ∈ BIG) : GoodIn BIG (cy :: BIG) := by
  intro w hw
  have hw' : w ∈ BIG := by
    rcases List.mem_cons.mp hw with h1 | h1
    · rw [h1]; exact h
    · exact h1
  exact ⟨hw', good_of_word (List.mem_filter.mp hw').2⟩
def rf_isNest : Cond → Bool
  | .fieldLinkNest .. => true
  | .methodLinkNest .. => true
  | _ => false
def rf_N0 (U : State) : Prop := ∀ w ∈ lw_tbl, rf_isNest w = true → va_Nw w U
theorem rf_N0.warm {s U : State} (hW : s.WarmedH U.vm) (h : rf_N0 s) : rf_N0 U := by
  intro w hw hn
  cases w with
  | fieldLinkNest a i b n d k => exact va_Nw.warmF hW (h _ hw hn)
  | methodLinkNest a i x k => exact va_Nw.warmM hW (h _ hw hn)
  | _ => exact absurd hn (by simp [rf_isNest])
theorem rf_N0.same {u U : State} (hv : u.vm = U.vm) (h : rf_N0 u) : rf_N0 U := by
  intro w hw hn
  cases w with
  | fieldLinkNest a i b n d k => exact va_Nw.same rfl hv (h _ hw hn)
  | methodLinkNest a i x k => exact va_Nw.same rfl hv (h _ hw hn)
  | _ => exact absurd hn (by simp [rf_isNest])
theorem rf_N0.of {s : State} {args : Array Value} (h : ∀ w ∈ lw_tbl, w.before args s = true) : rf_N0 s := by
  intro w hw hn
  cases w with
  | fieldLinkNest a i b n d k => exact va_Nw.of rfl (h _ hw)
  | methodLinkNest a i x k => exact va_Nw.of rfl (h _ hw)
  | _ => exact absurd hn (by simp [rf_isNest])
def rf_N (U : State) : Prop := rf_N0 U ∧ va_AO "RayField$Wall" U ∧ va_AO "RayField$Meeting" U
theorem rf_N.warm {s U : State} (hW : s.WarmedH U.vm) (h : rf_N s) : rf_N U := ⟨h.1.warm hW, h.2.1.moved hW.alike, h.2.2.moved hW.alike⟩
theorem rf_N.calling {U : State} {g : JFrame} {mk : MethodId} {a : Array Value} (h : rf_N U) : rf_N (U.calling g mk a) := ⟨rf_N0.same (u := U) (U := U.calling g mk a) rfl h.1, va_AO.moved (u := U) (U := U.calling g mk a) (Vm.Alike.refl U.vm) h.2.1, va_AO.moved (u := U) (U := U.calling g mk a) (Vm.Alike.refl U.vm) h.2.2⟩
def rf_E (D : va_G) (tys : List (ClassId × FieldType)) (U : State) : Prop := rf_N U ∧ va_K D vwCl tys U
theorem rf_E.warm {D : va_G} {tys : List (ClassId × FieldType)} {s U : State} (hW : s.WarmedH U.vm) (h : rf_E D tys s) : rf_E D tys U := ⟨h.1.warm hW, va_K.moved hW.alike h.2⟩
theorem rf_E.sub {D : va_G} {tys tys' : List (ClassId × FieldType)} {s : State} (h : rf_E D tys s) (is : List Nat) (hs : is.filterMap (fun i => tys[i]?) = tys') : rf_E D tys' s := ⟨h.1, h.2.sub is hs⟩
def rf_Pc (D : va_G) (tys : List (ClassId × FieldType)) (av : List Value) (PH : Heap → Prop) : Array Value → State → Prop := va_Pc av (fun U => rf_E D tys U ∧ PH U.heap)
theorem rf_blind {D : va_G} {tys : List (ClassId × FieldType)} {av : List Value} {PH : Heap → Prop} : FrameBlind (rf_Pc D tys av PH) := by
  intro a U g mk q
  obtain ⟨q0, ⟨qN, qK⟩, qP⟩ := q
  exact ⟨q0, ⟨qN.calling, va_K.moved (u := U) (U := U.calling g mk a) (Vm.Alike.refl U.vm) qK⟩, qP⟩
theorem rf_preS {D : va_G} {tys : List (ClassId × FieldType)} {As : List Value} {PH : Heap → Prop} {s : State} {H : Heap} (hE : rf_E D tys s) (hH : PH H) : PreS s H (rf_Pc D tys As PH) As :=
  ⟨rf_blind, fun U hU hW => ⟨rfl, hE.warm hW, by rw [hU]; exact hH⟩⟩
theorem rf_preV {D : va_G} {tys : List (ClassId × FieldType)} {As : List Value} {PH : Heap → Prop} {s : State} {H : Heap} {C : String} {b : Addr} (hE : rf_E D tys s) (hr : ∃ cellB : Cell, H[b]? = some cellB ∧ cellB.vm.isStatics = false ∧ s.vm.findClass C = some cellB.cls) (hH : PH H) : PreV s H C b (rf_Pc D tys (.ref b :: As) PH) As :=
  ⟨rf_blind, hr, fun U hU hW => ⟨rfl, hE.warm hW, by rw [hU]; exact hH⟩⟩
/-- what a call's instruction links: static, static of a nest mate, virtual, constructor, constructor of a nest mate -/
def rf_okY (y : MethodName) (n : Nat) : Prop := y.cls ≠ "java/lang/invoke/MethodHandle" ∧ y.cls ≠ "java/lang/invoke/VarHandle" ∧ (parseMethodDescriptor y.desc).map (fun d => d.parameters.length) = some n
def rf_LS (own : String) (idx : Nat) (y : MethodName) (b : ByteArray) (mL : Nat) (ret : Option FieldType) (n : Nat) : Prop := Cond.code y b mL ret ∈ BIG ∧ Cond.methodLink own idx y ∈ BIG ∧ Cond.static y ∈ BIG ∧ Cond.initialized y.cls ∈ BIG ∧ rf_okY y n
def rf_LSN (own : String) (idx : Nat) (host : String) (y : MethodName) (b : ByteArray) (mL : Nat) (ret : Option FieldType) (n : Nat) : Prop := Cond.code y b mL ret ∈ BIG ∧ Cond.methodLinkNest own idx y host ∈ lw_tbl ∧ Cond.static y ∈ BIG ∧ Cond.initialized y.cls ∈ BIG ∧ rf_okY y n
def rf_LV (own : String) (idx : Nat) (y : MethodName) (b : ByteArray) (mL : Nat) (ret : Option FieldType) (n : Nat) : Prop := Cond.code y b mL ret ∈ BIG ∧ Cond.methodLink own idx y ∈ BIG ∧ Cond.instanceMethod y ∈ BIG ∧ Cond.selects y.cls y y ∈ BIG ∧ Cond.initialized y.cls ∈ BIG ∧ rf_okY y n
def rf_LI (own : String) (idx : Nat) (y : MethodName) (b : ByteArray) (mL n : Nat) : Prop := Cond.code y b mL none ∈ BIG ∧ Cond.methodLink own idx y ∈ BIG ∧ Cond.instanceMethod y ∈ BIG ∧ Cond.initialized y.cls ∈ BIG ∧ y.name = "<init>" ∧ rf_okY y n
def rf_LIN (own : String) (idx : Nat) (host : String) (y : MethodName) (b : ByteArray) (mL n : Nat) : Prop := Cond.code y b mL none ∈ BIG ∧ Cond.methodLinkNest own idx y host ∈ lw_tbl ∧ Cond.instanceMethod y ∈ BIG ∧ Cond.initialized y.cls ∈ BIG ∧ y.name = "<init>" ∧ rf_okY y n
section RfRun
variable {p : Program} {l : Launch} {e : Env} {R : Room} {s : State} {m : MethodId} {args : Array Value} {below : List Frame} {meth : Method} {c : Code} {H : Heap} {locs : List Loc} {cells slots : Nat} {Q : State → Prop} {cc b : ByteArray} {pc nL mL n idx mc ms : Nat} {ls : Array Slot} {st0 As rest : List Value} {own host : String} {y : MethodName} {ret : Option FieldType} {rm : Room} {D : va_G} {tys : List (ClassId × FieldType)} {PH : Heap → Prop} {Qc : Array Value → State → Outcome → State → Prop} {free : Addr → Prop} {o : Addr}
theorem rf_runS (S : CallFix p m c cc nL s args BIG own) (L : rf_LS own idx y b mL ret n) (hM : Met l y (.code y b mL ret :: BIG) rm (rf_Pc D tys As PH) Qc mc ms free) (hE : rf_E D tys s) (hH : PH H)
    (hr : rm.cells = mc ∧ rm.slots = ms ∧ rm.frames + 1 ≤ R.frames ∧ 8 + (mL + 11) + rm.locals ≤ R.locals) (hn : As.length = n) (hsz : ls.size = nL) (hst : st0 = As.reverse ++ rest) (hW : (rest.map fun v => v.category).sum ≤ 8) (hdg : decode cc pc = .ok (.invokestatic idx, 3)) (hf : cells + mc ≤ R.cells ∧ slots + ms ≤ R.slots) :
    va_Run p l e R s m args below meth c H locs cells slots mc ms (F0 m pc ls st0) rest (Qc As.toArray) free :=
  va_runS S hM ⟨callB_of n S.2.2.2.2 (big_good L.1) rfl hr.1 hr.2.1 (S.2.2.2.2 _ L.2.2.2.1) (S.2.2.2.2 _ L.2.1) L.2.2.2.2 ⟨hr.2.2.1, hr.2.2.2⟩, S.2.2.2.2 _ L.2.2.1⟩ (rf_preS hE hH) rfl hn hsz hst (lv_room hW) hdg hf
theorem rf_runSN (S : CallFix p m c cc nL s args BIG own) (L : rf_LSN own idx host y b mL ret n) (hM : Met l y (.code y b mL ret :: BIG) rm (rf_Pc D tys As PH) Qc mc ms free) (hE : rf_E D tys s) (hH : PH H)
    (hr : rm.cells = mc ∧ rm.slots = ms ∧ rm.frames + 1 ≤ R.frames ∧ 8 + (mL + 11) + rm.locals ≤ R.locals) (hn : As.length = n) (hsz : ls.size = nL) (hst : st0 = As.reverse ++ rest) (hW : (rest.map fun v => v.category).sum ≤ 8) (hdg : decode cc pc = .ok (.invokestatic idx, 3)) (hf : cells + mc ≤ R.cells ∧ slots + ms ≤ R.slots) :
    va_Run p l e R s m args below meth c H locs cells slots mc ms (F0 m pc ls st0) rest (Qc As.toArray) free :=
  va_runSN S hM ⟨va_cnB n S.2.2.2.2 (big_good L.1) rfl hr.1 hr.2.1 (hE.1.1 _ L.2.1 rfl) (S.2.2.2.2 _ L.2.2.2.1) L.2.2.2.2 ⟨hr.2.2.1, hr.2.2.2⟩, S.2.2.2.2 _ L.2.2.1, trivial⟩ (rf_preS hE hH) rfl hn hsz hst (lv_room hW) hdg hf
theorem rf_runV (S : CallFix p m c cc nL s args BIG own) (L : rf_LV own idx y b mL ret n) (hM : Met l y (.code y b mL ret :: BIG) rm (rf_Pc D tys (.ref o :: As) PH) Qc mc ms free) (hE : rf_E D tys s) (ho : ∃ cellB : Cell, H[o]? = some cellB ∧ cellB.vm.isStatics = false ∧ s.vm.findClass y.cls = some cellB.cls) (hH : PH H)
    (hr : rm.cells = mc ∧ rm.slots = ms ∧ rm.frames + 1 ≤ R.frames ∧ 8 + (mL + 11) + rm.locals ≤ R.locals) (hn : As.length = n) (hsz : ls.size = nL) (hst : st0 = As.reverse ++ .ref o :: rest) (hW : (rest.map fun v => v.category).sum ≤ 8) (hdg : decode cc pc = .ok (.invokevirtual idx, 3)) (hf : cells + mc ≤ R.cells ∧ slots + ms ≤ R.slots) :
    va_Run p l e R s m args below meth c H locs cells slots mc ms (F0 m pc ls st0) rest (Qc (Value.ref o :: As).toArray) free :=
  va_runV S hM ⟨callB_of n S.2.2.2.2 (big_good L.1) rfl hr.1 hr.2.1 (S.2.2.2.2 _ L.2.2.2.2.1) (S.2.2.2.2 _ L.2.1) L.2.2.2.2.2 ⟨hr.2.2.1, hr.2.2.2⟩, S.2.2.2.2 _ L.2.2.1, S.2.2.2.2 _ L.2.2.2.1⟩ (rf_preV hE ho hH) rfl hn hsz hst (lv_room hW) hdg hf
theorem rf_runI (S : CallFix p m c cc nL s args BIG own) (L : rf_LI own idx y b mL n) (hM : Met l y (.code y b mL none :: BIG) rm (rf_Pc D tys (.ref o :: As) PH) Qc mc ms free) (hE : rf_E D tys s) (hH : PH H)
    (hr : rm.cells = mc ∧ rm.slots = ms ∧ rm.frames + 1 ≤ R.frames ∧ 8 + (mL + 11) + rm.locals ≤ R.locals) (hn : As.length = n) (hsz : ls.size = nL) (hst : st0 = As.reverse ++ .ref o :: rest) (hW : (rest.map fun v => v.category).sum ≤ 8) (hdg : decode cc pc = .ok (.invokespecial idx, 3)) (hf : cells + mc ≤ R.cells ∧ slots + ms ≤ R.slots) :
    va_Run p l e R s m args below meth c H locs cells slots mc ms (F0 m pc ls st0) rest (Qc (Value.ref o :: As).toArray) free :=
  va_runI S hM ⟨callB_of n S.2.2.2.2 (big_good L.1) rfl hr.1 hr.2.1 (S.2.2.2.2 _ L.2.2.2.1) (S.2.2.2.2 _ L.2.1) L.2.2.2.2.2 ⟨hr.2.2.1, hr.2.2.2⟩, L.2.2.2.2.1, S.2.2.2.2 _ L.2.2.1⟩ (rf_preS hE hH) rfl hn hsz hst (lv_room hW) hdg hf
theorem rf_runIN (S : CallFix p m c cc nL s args BIG own) (L : rf_LIN own idx host y b mL n) (hM : Met l y (.code y b mL none :: BIG) rm (rf_Pc D tys (.ref o :: As) PH) Qc mc ms free) (hE : rf_E D tys s) (hH : PH H)
    (hr : rm.cells = mc ∧ rm.slots = ms ∧ rm.frames + 1 ≤ R.frames ∧ 8 + (mL + 11) + rm.locals ≤ R.locals) (hn : As.length = n) (hsz : ls.size = nL) (hst : st0 = As.reverse ++ .ref o :: rest) (hW : (rest.map fun v => v.category).sum ≤ 8) (hdg : decode cc pc = .ok (.invokespecial idx, 3)) (hf : cells + mc ≤ R.cells ∧ slots + ms ≤ R.slots) :
    va_Run p l e R s m args below meth c H locs cells slots mc ms (F0 m pc ls st0) rest (Qc (Value.ref o :: As).toArray) free :=
  va_runIN S hM ⟨va_cnB n S.2.2.2.2 (big_good L.1) rfl hr.1 hr.2.1 (hE.1.1 _ L.2.1 rfl) (S.2.2.2.2 _ L.2.2.2.1) L.2.2.2.2.2 ⟨hr.2.2.1, hr.2.2.2⟩, L.2.2.2.2.1, S.2.2.2.2 _ L.2.2.1⟩ (rf_preS hE hH) rfl hn hsz hst (lv_room hW) hdg hf
/-- a reference that may be null, on the stack -/
theorem rf_topq {r : Option Nat} (k0 : r = none → W p l e R s m args below meth c H locs cells slots Q (F0 m pc ls (.null :: rest))) (k1 : ∀ q : Nat, r = some q → W p l e R s m args below meth c H locs cells slots Q (F0 m pc ls (.ref q :: rest))) : W p l e R s m args below meth c H locs cells slots Q (F0 m pc ls (va_rf r :: rest)) := by
  cases r with
  | none => exact k0 rfl
  | some q => exact k1 q rfl
theorem rf_topi {x y : Int32} (h : x = y) (k : W p l e R s m args below meth c H locs cells slots Q (F0 m pc ls (.int y :: rest))) : W p l e R s m args below meth c H locs cells slots Q (F0 m pc ls (.int x :: rest)) := h ▸ k
theorem rf_topl {x y : Int64} (h : x = y) (k : W p l e R s m args below meth c H locs cells slots Q (F0 m pc ls (.long y :: rest))) : W p l e R s m args below meth c H locs cells slots Q (F0 m pc ls (.long x :: rest)) := h ▸ k
/-- the ways that meet at pc2, with a number on the stack, or with none -/
theorem rf_joinI {st : List Value} (pc2 : Nat) (st2 : List Value) (X : Int32 → Prop) (hj : ∀ b : Int32, X b → W p l e R s m args below meth c H locs cells slots Q (F0 m pc2 ls (.int b :: st2))) (k : (∀ b : Int32, X b → W p l e R s m args below meth c H locs cells slots Q (F0 m pc2 ls (.int b :: st2))) → W p l e R s m args below meth c H locs cells slots Q (F0 m pc ls st)) : W p l e R s m args below meth c H locs cells slots Q (F0 m pc ls st) := k hj
theorem rf_joinU {st : List Value} (pc2 : Nat) (st2 : List Value) (X : Prop) (hj : X → W p l e R s m args below meth c H locs cells slots Q (F0 m pc2 ls st2)) (k : (X → W p l e R s m args below meth c H locs cells slots Q (F0 m pc2 ls st2)) → W p l e R s m args below meth c H locs cells slots Q (F0 m pc ls st)) : W p l e R s m args below meth c H locs cells slots Q (F0 m pc ls st) := k hj
/-- a loop whose head is at pc0: i goes up to N; the invariant speaks of the locals, the heap and the room -/
theorem rf_loop (pc0 N : Nat) (I : Nat → Array Slot → Heap → List Loc → Nat → Nat → Prop)
    (last : ∀ (ls : Array Slot) (H : Heap) (locs : List Loc) (k1 k2 : Nat), I N ls H locs k1 k2 → W p l e R s m args below meth c H locs k1 k2 Q (F0 m pc0 ls []))
    (step : ∀ (i : Nat) (ls : Array Slot) (H : Heap) (locs : List Loc) (k1 k2 : Nat), i < N → I i ls H locs k1 k2 → (∀ (ls' : Array Slot) (H' : Heap) (locs' : List Loc) (k1' k2' : Nat), I (i + 1) ls' H' locs' k1' k2' → W p l e R s m args below meth c H' locs' k1' k2' Q (F0 m pc0 ls' [])) → W p l e R s m args below meth c H locs k1 k2 Q (F0 m pc0 ls []))
    (i : Nat) (hi : i ≤ N) (h : I i ls H locs cells slots) : W p l e R s m args below meth c H locs cells slots Q (F0 m pc0 ls []) := by
  have key : ∀ (n i : Nat) (ls : Array Slot) (H : Heap) (locs : List Loc) (k1 k2 : Nat), i + n = N → I i ls H locs k1 k2 → W p l e R s m args below meth c H locs k1 k2 Q (F0 m pc0 ls []) := by
    intro n
    induction n with
    | zero => intro i ls H locs k1 k2 hin h; have e : i = N := by omega
              subst e; exact last ls H locs k1 k2 h
    | succ n ih => intro i ls H locs k1 k2 hin h
                   exact step i ls H locs k1 k2 (by omega) h (fun ls' H' locs' k1' k2' h' => ih (i + 1) ls' H' locs' k1' k2' (by omega) h')
  exact key (N - i) i ls H locs cells slots (by omega) h
/-- a loop without a change of the heap -/
theorem rf_loopP (pc0 N : Nat) (I : Nat → Array Slot → Prop)
    (last : ∀ ls : Array Slot, I N ls → W p l e R s m args below meth c H locs cells slots Q (F0 m pc0 ls []))
    (step : ∀ (i : Nat) (ls : Array Slot), i < N → I i ls → (∀ ls' : Array Slot, I (i + 1) ls' → W p l e R s m args below meth c H locs cells slots Q (F0 m pc0 ls' [])) → W p l e R s m args below meth c H locs cells slots Q (F0 m pc0 ls []))
    (i : Nat) (hi : i ≤ N) (h : I i ls) : W p l e R s m args below meth c H locs cells slots Q (F0 m pc0 ls []) := by
  have key : ∀ (n i : Nat) (ls : Array Slot), i + n = N → I i ls → W p l e R s m args below meth c H locs cells slots Q (F0 m pc0 ls []) := by
    intro n
    induction n with
    | zero => intro i ls hin h; have e : i = N := by omega
              subst e; exact last ls h
    | succ n ih => intro i ls hin h
                   exact step i ls (by omega) h (fun ls' h' => ih (i + 1) ls' (by omega) h')
  exact key (N - i) i ls (by omega) h
theorem rf_lcmp_ge (hx : p.tables.exec = Jvm.exec) (hb : c.code = cc) {x y : Int64} {off : Int} {tgt : Nat} (hd : decode cc pc = .ok (.lcmp, 1)) (hd2 : decode cc (pc + 1) = .ok (.ifCond .ge off, 3)) (ht : ((pc + 1 : Nat) : Int) + off = (tgt : Int)) (kt : y ≤ x → W p l e R s m args below meth c H locs cells slots Q (F0 m tgt ls rest)) (kf : ¬ y ≤ x → W p l e R s m args below meth c H locs cells slots Q (F0 m (pc + 1 + 3) ls rest)) : W p l e R s m args below meth c H locs cells slots Q (F0 m pc ls (.long y :: .long x :: rest)) :=
  W.lcmp hx hb hd (lv_if_ge hx hb hd2 ht (fun h => kt ((lg_cmp_ge x y).mp h)) (fun h => kf (fun q => h ((lg_cmp_ge x y).mpr q))))
theorem rf_lcmp_lt (hx : p.tables.exec = Jvm.exec) (hb : c.code = cc) {x y : Int64} {off : Int} {tgt : Nat} (hd : decode cc pc = .ok (.lcmp, 1)) (hd2 : decode cc (pc + 1) = .ok (.ifCond .lt off, 3)) (ht : ((pc + 1 : Nat) : Int) + off = (tgt : Int)) (kt : x < y → W p l e R s m args below meth c H locs cells slots Q (F0 m tgt ls rest)) (kf : ¬ x < y → W p l e R s m args below meth c H locs cells slots Q (F0 m (pc + 1 + 3) ls rest)) : W p l e R s m args below meth c H locs cells slots Q (F0 m pc ls (.long y :: .long x :: rest)) :=
  W.lcmp hx hb hd (lv_if_lt hx hb hd2 ht (fun h => kt ((lg_cmp_lt x y).mp h)) (fun h => kf (fun q => h ((lg_cmp_lt x y).mpr q))))
theorem rf_lcmp_gt (hx : p.tables.exec = Jvm.exec) (hb : c.code = cc) {x y : Int64} {off : Int} {tgt : Nat} (hd : decode cc pc = .ok (.lcmp, 1)) (hd2 : decode cc (pc + 1) = .ok (.ifCond .gt off, 3)) (ht : ((pc + 1 : Nat) : Int) + off = (tgt : Int)) (kt : y < x → W p l e R s m args below meth c H locs cells slots Q (F0 m tgt ls rest)) (kf : ¬ y < x → W p l e R s m args below meth c H locs cells slots Q (F0 m (pc + 1 + 3) ls rest)) : W p l e R s m args below meth c H locs cells slots Q (F0 m pc ls (.long y :: .long x :: rest)) :=
  W.lcmp hx hb hd (lv_if_gt hx hb hd2 ht (fun h => kt ((lg_cmp_gt x y).mp h)) (fun h => kf (fun q => h ((lg_cmp_gt x y).mpr q))))
theorem rf_lcmp_le (hx : p.tables.exec = Jvm.exec) (hb : c.code = cc) {x y : Int64} {off : Int} {tgt : Nat} (hd : decode cc pc = .ok (.lcmp, 1)) (hd2 : decode cc (pc + 1) = .ok (.ifCond .le off, 3)) (ht : ((pc + 1 : Nat) : Int) + off = (tgt : Int)) (kt : x ≤ y → W p l e R s m args below meth c H locs cells slots Q (F0 m tgt ls rest)) (kf : ¬ x ≤ y → W p l e R s m args below meth c H locs cells slots Q (F0 m (pc + 1 + 3) ls rest)) : W p l e R s m args below meth c H locs cells slots Q (F0 m pc ls (.long y :: .long x :: rest)) :=
  W.lcmp hx hb hd (lv_if_le hx hb hd2 ht (fun h => kt ((lg_cmp_le x y).mp h)) (fun h => kf (fun q => h ((lg_cmp_le x y).mpr q))))
theorem rf_lcmp_eq (hx : p.tables.exec = Jvm.exec) (hb : c.code = cc) {x y : Int64} {off : Int} {tgt : Nat} (hd : decode cc pc = .ok (.lcmp, 1)) (hd2 : decode cc (pc + 1) = .ok (.ifCond .eq off, 3)) (ht : ((pc + 1 : Nat) : Int) + off = (tgt : Int)) (kt : x = y → W p l e R s m args below meth c H locs cells slots Q (F0 m tgt ls rest)) (kf : ¬ x = y → W p l e R s m args below meth c H locs cells slots Q (F0 m (pc + 1 + 3) ls rest)) : W p l e R s m args below meth c H locs cells slots Q (F0 m pc ls (.long y :: .long x :: rest)) :=
  W.lcmp hx hb hd (lv_if_eq hx hb hd2 ht (fun h => kt ((lg_cmp_eq x y).mp h)) (fun h => kf (fun q => h ((lg_cmp_eq x y).mpr q))))
theorem rf_lcmp_ne (hx : p.tables.exec = Jvm.exec) (hb : c.code = cc) {x y : Int64} {off : Int} {tgt : Nat} (hd : decode cc pc = .ok (.lcmp, 1)) (hd2 : decode cc (pc + 1) = .ok (.ifCond .ne off, 3)) (ht : ((pc + 1 : Nat) : Int) + off = (tgt : Int)) (kt : ¬ x = y → W p l e R s m args below meth c H locs cells slots Q (F0 m tgt ls rest)) (kf : x = y → W p l e R s m args below meth c H locs cells slots Q (F0 m (pc + 1 + 3) ls rest)) : W p l e R s m args below meth c H locs cells slots Q (F0 m pc ls (.long y :: .long x :: rest)) :=
  W.lcmp hx hb hd (lv_if_ne hx hb hd2 ht (fun h => kt (fun q => h ((lg_cmp_eq x y).mpr q))) (fun h => kf ((lg_cmp_eq x y).mp h)))
end RfRun
section RfArr
variable {p : Program} {l : Launch} {e : Env} {R : Room} {s : State} {m : MethodId} {args : Array Value} {below : List Frame} {meth : Method} {c : Code} {H H0 : Heap} {locs : List Loc} {cells slots : Nat} {Q : State → Prop} {cc : ByteArray} {pc : Nat} {ls : Array Slot} {rest : List Value} {D : va_G} {cl : List vw_C} {tys : List (ClassId × FieldType)} {ws : va_W} {A : Nat → Prop} {a : Nat}
theorem rf_iald (hx : p.tables.exec = Jvm.exec) (hb : c.code = cc) (hK : va_K D cl tys s) (hP : va_P D cl ws H) (q0 t0 : Nat) {cA : ClassId} {n i : Nat} {f : Nat → Int32} (ha : ws[q0]? = some (a, .inl (cA, n, .inl f))) (ht : tys[t0]? = some (cA, .int)) (hi : i < n) (hn : n < 2 ^ 31) (hdg : decode cc pc = .ok (.iaload, 1)) (kk : W p l e R s m args below meth c H locs cells slots Q (F0 m (pc + 1) ls (.int (f i) :: rest))) : W p l e R s m args below meth c H locs cells slots Q (F0 m pc ls (.int (nI i) :: .ref a :: rest)) :=
  va_iald hx hb hK hP q0 t0 ha ht (vp_in_nI hi hn) hdg (by rw [nI_clamp (Nat.lt_trans hi hn)]; exact kk)
theorem rf_zald (hx : p.tables.exec = Jvm.exec) (hb : c.code = cc) (hK : va_K D cl tys s) (hP : va_P D cl ws H) (q0 t0 : Nat) {cA : ClassId} {n i : Nat} {f : Nat → Int32} (ha : ws[q0]? = some (a, .inl (cA, n, .inl f))) (ht : tys[t0]? = some (cA, .boolean)) (hi : i < n) (hn : n < 2 ^ 31) (hdg : decode cc pc = .ok (.baload, 1)) (kk : W p l e R s m args below meth c H locs cells slots Q (F0 m (pc + 1) ls (.int (f i) :: rest))) : W p l e R s m args below meth c H locs cells slots Q (F0 m pc ls (.int (nI i) :: .ref a :: rest)) :=
  va_zald hx hb hK hP q0 t0 ha ht (vp_in_nI hi hn) hdg (by rw [nI_clamp (Nat.lt_trans hi hn)]; exact kk)
theorem rf_aldq (hx : p.tables.exec = Jvm.exec) (hb : c.code = cc) (hK : va_K D cl tys s) (hP : va_P D cl ws H) (q0 t0 : Nat) {cA : ClassId} {C : String} {n i : Nat} {f : Nat → Option Nat} (ha : ws[q0]? = some (a, .inl (cA, n, .inr (.inr (.inr (.inr f)))))) (ht : tys[t0]? = some (cA, .object C)) (hi : i < n) (hn : n < 2 ^ 31) (hdg : decode cc pc = .ok (.aaload, 1)) (kk : W p l e R s m args below meth c H locs cells slots Q (F0 m (pc + 1) ls (va_rf (f i) :: rest))) : W p l e R s m args below meth c H locs cells slots Q (F0 m pc ls (.int (nI i) :: .ref a :: rest)) :=
  va_aldq hx hb hK hP q0 t0 ha ht (vp_in_nI hi hn) hdg (by rw [nI_clamp (Nat.lt_trans hi hn)]; exact kk)
theorem rf_iast (hx : p.tables.exec = Jvm.exec) (hb : c.code = cc) (hK : va_K D cl tys s) (hP : va_P D cl ws H) (hD : va_D A ws) (hS : va_S A H0 H locs) (q0 t0 : Nat) {cA : ClassId} {n i : Nat} {f : Nat → Int32} (ha : ws[q0]? = some (a, .inl (cA, n, .inl f))) (ht : tys[t0]? = some (cA, .int)) {x : Int32} (hi : i < n) (hn : n < 2 ^ 31) (hdg : decode cc pc = .ok (.iastore, 1))
    (kk : ∀ (H1 : Heap) (locs1 : List Loc), va_P D cl (ws.set q0 (a, .inl (cA, n, .inl (upd f i x)))) H1 → va_D A (ws.set q0 (a, .inl (cA, n, .inl (upd f i x)))) → va_S A H0 H1 locs1 → W p l e R s m args below meth c H1 locs1 cells slots Q (F0 m (pc + 1) ls rest)) : W p l e R s m args below meth c H locs cells slots Q (F0 m pc ls (.int x :: .int (nI i) :: .ref a :: rest)) :=
  va_iast hx hb hK hP hD hS q0 t0 ha ht (vp_in_nI hi hn) hdg (by rw [nI_clamp (Nat.lt_trans hi hn)]; exact kk)
theorem rf_zast (hx : p.tables.exec = Jvm.exec) (hb : c.code = cc) (hK : va_K D cl tys s) (hP : va_P D cl ws H) (hD : va_D A ws) (hS : va_S A H0 H locs) (q0 t0 : Nat) {cA : ClassId} {n i : Nat} {f : Nat → Int32} (ha : ws[q0]? = some (a, .inl (cA, n, .inl f))) (ht : tys[t0]? = some (cA, .boolean)) {x : Int32} (hi : i < n) (hn : n < 2 ^ 31) (hx1 : vp_nar .boolean x = x) (hdg : decode cc pc = .ok (.bastore, 1))
    (kk : ∀ (H1 : Heap) (locs1 : List Loc), va_P D cl (ws.set q0 (a, .inl (cA, n, .inl (upd f i x)))) H1 → va_D A (ws.set q0 (a, .inl (cA, n, .inl (upd f i x)))) → va_S A H0 H1 locs1 → W p l e R s m args below meth c H1 locs1 cells slots Q (F0 m (pc + 1) ls rest)) : W p l e R s m args below meth c H locs cells slots Q (F0 m pc ls (.int x :: .int (nI i) :: .ref a :: rest)) :=
  va_zast hx hb hK hP hD hS q0 t0 ha ht (vp_in_nI hi hn) hdg (by rw [nI_clamp (Nat.lt_trans hi hn), hx1]; exact kk)
theorem rf_astq (hx : p.tables.exec = Jvm.exec) (hb : c.code = cc) (hK : va_K D cl tys s) (hP : va_P D cl ws H) (hD : va_D A ws) (hS : va_S A H0 H locs) (q0 t0 qk ci : Nat) {cA : ClassId} {r : vw_C} {n i v : Nat} {vs : List Value} {f : Nat → Option Nat} (ha : ws[q0]? = some (a, .inl (cA, n, .inr (.inr (.inr (.inr f)))))) (ht : tys[t0]? = some (cA, .object r.1)) (hv : ws[qk]? = some (v, .inr (ci, vs))) (hc : cl[ci]? = some r) (hi : i < n) (hn : n < 2 ^ 31) (hdg : decode cc pc = .ok (.aastore, 1))
    (kk : ∀ (H1 : Heap) (locs1 : List Loc), va_P D cl (ws.set q0 (a, .inl (cA, n, .inr (.inr (.inr (.inr (va_up f i (some v)))))))) H1 → va_D A (ws.set q0 (a, .inl (cA, n, .inr (.inr (.inr (.inr (va_up f i (some v)))))))) → va_S A H0 H1 locs1 → W p l e R s m args below meth c H1 locs1 cells slots Q (F0 m (pc + 1) ls rest)) : W p l e R s m args below meth c H locs cells slots Q (F0 m pc ls (.ref v :: .int (nI i) :: .ref a :: rest)) :=
  va_astq hx hb hK hP hD hS q0 t0 qk ci ha ht hv hc (vp_in_nI hi hn) hdg (by rw [nI_clamp (Nat.lt_trans hi hn)]; exact kk)
theorem rf_astqN (hx : p.tables.exec = Jvm.exec) (hb : c.code = cc) (hK : va_K D cl tys s) (hP : va_P D cl ws H) (hD : va_D A ws) (hS : va_S A H0 H locs) (q0 t0 : Nat) {cA : ClassId} {C : String} {n i : Nat} {f : Nat → Option Nat} (ha : ws[q0]? = some (a, .inl (cA, n, .inr (.inr (.inr (.inr f)))))) (ht : tys[t0]? = some (cA, .object C)) (hi : i < n) (hn : n < 2 ^ 31) (hdg : decode cc pc = .ok (.aastore, 1))
    (kk : ∀ (H1 : Heap) (locs1 : List Loc), va_P D cl (ws.set q0 (a, .inl (cA, n, .inr (.inr (.inr (.inr (va_up f i none))))))) H1 → va_D A (ws.set q0 (a, .inl (cA, n, .inr (.inr (.inr (.inr (va_up f i none))))))) → va_S A H0 H1 locs1 → W p l e R s m args below meth c H1 locs1 cells slots Q (F0 m (pc + 1) ls rest)) : W p l e R s m args below meth c H locs cells slots Q (F0 m pc ls (.null :: .int (nI i) :: .ref a :: rest)) :=
  va_astqN hx hb hK hP hD hS q0 t0 ha ht (vp_in_nI hi hn) hdg (by rw [nI_clamp (Nat.lt_trans hi hn)]; exact kk)
/-- one object of a pool, by itself -/
theorem rf_pl {X : va_W} {L : List Nat} {f : Nat → va_E} {x : va_E} (hP : va_P D cl (X ++ va_pl L f) H) (h : a ∈ L) (he : f a = x) : va_P D cl [(a, x)] H := by
  obtain ⟨k, hk⟩ := va_pl_get (X := X) (f := f) h
  rw [he] at hk
  intro i q hq
  match i, hq with
  | 0, hq => cases hq; exact hP k _ hk
  | i + 1, hq => simp at hq
end RfArr
/-- a boolean's answer -/
def rf_tf (r : Int32) (P : Prop) : Prop := (r = 1 ∧ P) ∨ (r = 0 ∧ ¬ P)
theorem rf_tf.t {r : Int32} {P : Prop} (h : rf_tf r P) (n : ¬ r = 0) : P := by
  rcases h with ⟨_, h1⟩ | ⟨h1, _⟩
  · exact h1
  · exact absurd h1 n
theorem rf_tf.f {r : Int32} {P : Prop} (h : rf_tf r P) (n : r = 0) : ¬ P := by
  rcases h with ⟨h1, _⟩ | ⟨_, h1⟩
  · rw [h1] at n; exact absurd n (by decide)
  · exact h1
theorem rf_tf.nar {r : Int32} {P : Prop} (h : rf_tf r P) : narrow .boolean (.int r) = .int r := by
  rcases h with ⟨h1, _⟩ | ⟨h1, _⟩ <;> (rw [h1]; rfl)
theorem rf_T {P : Prop} (h : P) : rf_tf 1 P := Or.inl ⟨rfl, h⟩
theorem rf_F {P : Prop} (h : ¬ P) : rf_tf 0 P := Or.inr ⟨rfl, h⟩
theorem rf_tf.same {r r' : Int32} {P P' : Prop} (h : rf_tf r P) (h' : rf_tf r' P') (e : P ↔ P') : r = r' := by
  rcases h with ⟨h1, h2⟩ | ⟨h1, h2⟩ <;> rcases h' with ⟨h3, h4⟩ | ⟨h3, h4⟩
  · rw [h1, h3]
  · exact absurd (e.mp h2) h4
  · exact absurd (e.mpr h4) h2
  · rw [h1, h3]
theorem rf_tf.to {r : Int32} {P P' : Prop} (h : rf_tf r P) (e : P ↔ P') : rf_tf r P' := by
  rcases h with ⟨h1, h2⟩ | ⟨h1, h2⟩
  · exact Or.inl ⟨h1, e.mp h2⟩
  · exact Or.inr ⟨h1, fun q => h2 (e.mpr q)⟩
/-- the least of 64 with C, or -1 -/
def rf_First (C : Nat → Prop) (r : Int32) : Prop := (∃ k, k < 64 ∧ r = nI k ∧ C k ∧ ∀ j, j < k → ¬ C j) ∨ (r = -1 ∧ ∀ j, j < 64 → ¬ C j)
theorem rf_First.uniq {C C' : Nat → Prop} {r r' : Int32} (h : rf_First C r) (h' : rf_First C' r') (e : ∀ k, k < 64 → (C k ↔ C' k)) : r = r' := by
  rcases h with ⟨k, hk, h1, h2, h3⟩ | ⟨h1, h2⟩ <;> rcases h' with ⟨j, hj, g1, g2, g3⟩ | ⟨g1, g2⟩
  · have : k = j := by
      rcases Nat.lt_trichotomy k j with q | q | q
      · exact absurd ((e k hk).mp h2) (g3 k q)
      · exact q
      · exact absurd ((e j hj).mpr g2) (h3 j q)
    rw [h1, g1, this]
  · exact absurd ((e k hk).mp h2) (g2 k hk)
  · exact absurd ((e j hj).mpr g2) (h2 j hj)
  · rw [h1, g1]
theorem rf_heap {p : Program} {l : Launch} {e : Env} {R : Room} {s : State} {m : MethodId} {args : Array Value} {below : List Frame} {meth : Method} {c : Code} {H H' : Heap} {locs : List Loc} {cells slots : Nat} {Q : State → Prop} {g : JFrame} (h : H' = H) (k : W p l e R s m args below meth c H' locs cells slots Q g) : W p l e R s m args below meth c H locs cells slots Q g := h ▸ k
/-- a contract of a method whose class has entries of its own in the model, but none for this one -/
theorem rf_ofWF {l : Launch} {y : MethodName} {ws ws' : List Cond} {rm : Room} {Pc : Array Value → State → Prop} {Qc : Array Value → State → Outcome → State → Prop} {mc ms : Nat} {free : Addr → Prop} {cc : ByteArray} {maxL : Nat} {ret : Option FieldType}
    (hy : plainFor y = true) (hw : ws = Cond.code y cc maxL ret :: ws')
    (body : ∀ p e s m args below meth c s₁, BodyLoose p l y (headSpec ws rm) cc maxL ret e s m args below meth c s₁ → c.maxLocals = maxL → Pc args s →
      W p l e (headSpec ws rm).room s m args below meth c s.heap [] 0 0 (MQ below Qc args s mc ms free) (entryFrame m args maxL)) : Met l y ws rm Pc Qc mc ms free := by
  refine MetFree.of_bodySF (code := cc) (maxLocals := maxL) (ret := ret) hy ?_ ?_
  · intro args s m h hn
    obtain ⟨meth, c, h1, h2, h3, h4, h5, h6, -, -⟩ := Cond.code_spec hn (atoms_spec (ws := ws) h _ (by rw [hw]; exact List.mem_cons_self))
    exact ⟨meth, c, h1, h2, h3, h4, h5, h6⟩
  · intro p e s m args below meth c s₁ B hml hP _
    have hh0 : s₁.heap = s.heap := by rw [B.state]; rfl
    obtain ⟨t, a1, o, b1, b2, b3⟩ := body p e s m args below meth c s₁ B hml hP s₁ hh0 (Stand.of_body B)
    exact ⟨t, o, a1, b1, b2, ⟨b3.1, b3.2⟩⟩
theorem ml_RF_21 : rf_LS "RayField" 21 y_RF_isPlace b_RF_isPlace 3 (some (.boolean)) 3 := ⟨w_41, w_39, w_40, w_1, ⟨by decide +kernel, by decide +kernel, by decide +kernel⟩⟩
theorem ml_RF_25 : rf_LV "RayField" 25 y_RF_leastFreeNumber b_RF_leastFreeNumber 2 (some (.int)) 0 := ⟨w_48, w_45, w_47, (big_mem (List.mem_append_left _ (List.mem_of_getElem? (i := 0) (by decide +kernel))) (by decide +kernel)), w_1, ⟨by decide +kernel, by decide +kernel, by decide +kernel⟩⟩
theorem ml_RF_29 : rf_LS "RayField" 29 y_RF_isNumber b_RF_isNumber 1 (some (.boolean)) 1 := ⟨w_51, w_49, w_50, w_1, ⟨by decide +kernel, by decide +kernel, by decide +kernel⟩⟩
theorem ml_RF_33 : rf_LI "RayField" 33 y_Wall_init b_Wall_init 5 4 := ⟨w_55, w_53, w_54, w_3, rfl, ⟨by decide +kernel, by decide +kernel, by decide +kernel⟩⟩
theorem ml_RF_36 : rf_LV "RayField" 36 y_RF_clashes b_RF_clashes 4 (some (.boolean)) 1 := ⟨w_81, w_78, w_80, (big_mem (List.mem_append_left _ (List.mem_of_getElem? (i := 1) (by decide +kernel))) (by decide +kernel)), w_1, ⟨by decide +kernel, by decide +kernel, by decide +kernel⟩⟩
theorem ml_RF_44 : rf_LV "RayField" 44 y_RF_meetAgain b_RF_meetAgain 4 none 0 := ⟨w_117, w_114, w_116, (big_mem (List.mem_append_left _ (List.mem_of_getElem? (i := 5) (by decide +kernel))) (by decide +kernel)), w_1, ⟨by decide +kernel, by decide +kernel, by decide +kernel⟩⟩
theorem ml_RF_47 : rf_LV "RayField" 47 y_RF_wallNumbered b_RF_wallNumbered 2 (some (.object "RayField$Wall")) 1 := ⟨w_175, w_172, w_174, (big_mem (List.mem_append_left _ (List.mem_of_getElem? (i := 8) (by decide +kernel))) (by decide +kernel)), w_1, ⟨by decide +kernel, by decide +kernel, by decide +kernel⟩⟩
theorem ml_RF_51 : rf_LV "RayField" 51 y_Wall_exchangeEnds b_Wall_exchangeEnds 3 none 0 := ⟨w_183, w_180, w_181, w_182, w_3, ⟨by decide +kernel, by decide +kernel, by decide +kernel⟩⟩
theorem ml_RF_56 : rf_LI "RayField" 56 y_Ray_init b_Ray_init 5 4 := ⟨w_196, w_194, w_195, w_6, rfl, ⟨by decide +kernel, by decide +kernel, by decide +kernel⟩⟩
theorem ml_RF_64 : rf_LV "RayField" 64 y_RF_meetingAt b_RF_meetingAt 2 (some (.object "RayField$Meeting")) 1 := ⟨w_224, w_221, w_223, (big_mem (List.mem_append_left _ (List.mem_of_getElem? (i := 9) (by decide +kernel))) (by decide +kernel)), w_1, ⟨by decide +kernel, by decide +kernel, by decide +kernel⟩⟩
theorem ml_RF_76 : rf_LS "RayField" 76 y_RF_isBetween b_RF_isBetween 3 (some (.boolean)) 3 := ⟨w_44, w_42, w_43, w_1, ⟨by decide +kernel, by decide +kernel, by decide +kernel⟩⟩
theorem ml_RF_85 : rf_LV "RayField" 85 y_Meeting_roundedDown b_Meeting_roundedDown 3 (some (.long)) 1 := ⟨w_238, w_235, w_236, w_237, w_5, ⟨by decide +kernel, by decide +kernel, by decide +kernel⟩⟩
theorem ml_RF_94 : rf_LV "RayField" 94 y_Meeting_isAtMost b_Meeting_isAtMost 5 (some (.boolean)) 2 := ⟨w_255, w_252, w_253, w_254, w_5, ⟨by decide +kernel, by decide +kernel, by decide +kernel⟩⟩
theorem ml_RF_98 : rf_LV "RayField" 98 y_Wall_covers b_Wall_covers 3 (some (.boolean)) 2 := ⟨w_263, w_260, w_261, w_262, w_3, ⟨by decide +kernel, by decide +kernel, by decide +kernel⟩⟩
theorem ml_RF_115 : rf_LV "RayField" 115 y_Wall_clashesWith b_Wall_clashesWith 6 (some (.boolean)) 1 := ⟨w_85, w_82, w_83, w_84, w_3, ⟨by decide +kernel, by decide +kernel, by decide +kernel⟩⟩
theorem ml_RF_118 : rf_LV "RayField" 118 y_RF_meetOne b_RF_meetOne 5 none 3 := ⟨w_121, w_118, w_120, (big_mem (List.mem_append_left _ (List.mem_of_getElem? (i := 6) (by decide +kernel))) (by decide +kernel)), w_1, ⟨by decide +kernel, by decide +kernel, by decide +kernel⟩⟩
theorem ml_RF_122 : rf_LIN "RayField" 122 "RayField" y_Meeting_init b_Meeting_init 1 0 := ⟨w_125, w_123, w_124, w_5, rfl, ⟨by decide +kernel, by decide +kernel, by decide +kernel⟩⟩
theorem ml_RF_123 : rf_LV "RayField" 123 y_Meeting_fill b_Meeting_fill 12 (some (.boolean)) 3 := ⟨w_150, w_147, w_148, w_149, w_5, ⟨by decide +kernel, by decide +kernel, by decide +kernel⟩⟩
theorem ml_RF_127 : rf_LV "RayField" 127 y_RF_sortIn b_RF_sortIn 4 none 1 := ⟨w_163, w_160, w_162, (big_mem (List.mem_append_left _ (List.mem_of_getElem? (i := 7) (by decide +kernel))) (by decide +kernel)), w_1, ⟨by decide +kernel, by decide +kernel, by decide +kernel⟩⟩
theorem ml_RF_131 : rf_LV "RayField" 131 y_Meeting_isNearerThan b_Meeting_isNearerThan 2 (some (.boolean)) 1 := ⟨w_167, w_164, w_165, w_166, w_5, ⟨by decide +kernel, by decide +kernel, by decide +kernel⟩⟩
theorem ml_Meeting_18 : rf_LV "RayField$Meeting" 18 y_Ray_side b_Ray_side 3 (some (.long)) 2 := ⟨w_154, w_151, w_152, w_153, w_6, ⟨by decide +kernel, by decide +kernel, by decide +kernel⟩⟩
theorem ml_Meeting_36 : rf_LV "RayField$Meeting" 36 y_Wall_side b_Wall_side 3 (some (.long)) 2 := ⟨w_89, w_156, w_87, w_88, w_3, ⟨by decide +kernel, by decide +kernel, by decide +kernel⟩⟩
theorem ml_Meeting_62 : rf_LS "RayField$Meeting" 62 y_Math_floorDiv b_Math_floorDiv 6 (some (.long)) 2 := ⟨w_241, w_239, w_240, w_4, ⟨by decide +kernel, by decide +kernel, by decide +kernel⟩⟩
theorem ml_Ray_22 : rf_LSN "RayField$Ray" 22 "RayField" y_RF_cross b_RF_cross 8 (some (.long)) 4 := ⟨w_92, w_155, w_91, w_1, ⟨by decide +kernel, by decide +kernel, by decide +kernel⟩⟩
theorem ml_Wall_22 : rf_LSN "RayField$Wall" 22 "RayField" y_RF_cross b_RF_cross 8 (some (.long)) 4 := ⟨w_92, w_90, w_91, w_1, ⟨by decide +kernel, by decide +kernel, by decide +kernel⟩⟩
theorem ml_Wall_28 : rf_LV "RayField$Wall" 28 y_Wall_side b_Wall_side 3 (some (.long)) 2 := ⟨w_89, w_86, w_87, w_88, w_3, ⟨by decide +kernel, by decide +kernel, by decide +kernel⟩⟩
theorem ml_Wall_41 : rf_LSN "RayField$Wall" 41 "RayField" y_RF_isBetween b_RF_isBetween 3 (some (.boolean)) 3 := ⟨w_44, w_264, w_43, w_1, ⟨by decide +kernel, by decide +kernel, by decide +kernel⟩⟩
theorem ml_Wall_45 : rf_LV "RayField$Wall" 45 y_Wall_overlapsOnItsLine b_Wall_overlapsOnItsLine 2 (some (.boolean)) 1 := ⟨w_96, w_93, w_95, (big_mem (List.mem_append_left _ (List.mem_of_getElem? (i := 2) (by decide +kernel))) (by decide +kernel)), w_3, ⟨by decide +kernel, by decide +kernel, by decide +kernel⟩⟩
theorem ml_Wall_49 : rf_LV "RayField$Wall" 49 y_Wall_sharesEndWith b_Wall_sharesEndWith 2 (some (.boolean)) 1 := ⟨w_109, w_106, w_108, (big_mem (List.mem_append_left _ (List.mem_of_getElem? (i := 3) (by decide +kernel))) (by decide +kernel)), w_3, ⟨by decide +kernel, by decide +kernel, by decide +kernel⟩⟩
theorem ml_Wall_52 : rf_LS "RayField$Wall" 52 y_Wall_commonLength b_Wall_commonLength 6 (some (.int)) 4 := ⟨w_99, w_97, w_98, w_3, ⟨by decide +kernel, by decide +kernel, by decide +kernel⟩⟩
theorem ml_Wall_56 : rf_LV "RayField$Wall" 56 y_Wall_hasEnd b_Wall_hasEnd 3 (some (.boolean)) 2 := ⟨w_113, w_110, w_112, (big_mem (List.mem_append_left _ (List.mem_of_getElem? (i := 4) (by decide +kernel))) (by decide +kernel)), w_3, ⟨by decide +kernel, by decide +kernel, by decide +kernel⟩⟩
theorem ml_Law_9 : rf_LI "RayFieldLaw" 9 y_RF_init b_RF_init 1 0 := ⟨w_11, w_9, w_10, w_1, rfl, ⟨by decide +kernel, by decide +kernel, by decide +kernel⟩⟩
theorem ml_Law_12 : rf_LI "RayFieldLaw" 12 y_Md_init b_Md_init 1 0 := ⟨w_278, w_276, w_277, w_2, rfl, ⟨by decide +kernel, by decide +kernel, by decide +kernel⟩⟩
theorem ml_Law_13 : rf_LV "RayFieldLaw" 13 y_RF_put b_RF_put 7 (some (.int)) 4 := ⟨w_38, w_35, w_36, w_37, w_1, ⟨by decide +kernel, by decide +kernel, by decide +kernel⟩⟩
theorem ml_Law_17 : rf_LV "RayFieldLaw" 17 y_Md_put b_Md_put 7 (some (.int)) 4 := ⟨w_340, w_337, w_338, w_339, w_2, ⟨by decide +kernel, by decide +kernel, by decide +kernel⟩⟩
theorem ml_Law_18 : rf_LV "RayFieldLaw" 18 y_RF_take b_RF_take 2 (some (.boolean)) 1 := ⟨w_171, w_168, w_169, w_170, w_1, ⟨by decide +kernel, by decide +kernel, by decide +kernel⟩⟩
theorem ml_Law_22 : rf_LV "RayFieldLaw" 22 y_Md_take b_Md_take 2 (some (.boolean)) 1 := ⟨w_366, w_363, w_364, w_365, w_2, ⟨by decide +kernel, by decide +kernel, by decide +kernel⟩⟩
theorem ml_Law_23 : rf_LV "RayFieldLaw" 23 y_RF_turn b_RF_turn 3 (some (.boolean)) 1 := ⟨w_179, w_176, w_177, w_178, w_1, ⟨by decide +kernel, by decide +kernel, by decide +kernel⟩⟩
theorem ml_Law_26 : rf_LV "RayFieldLaw" 26 y_Md_turn b_Md_turn 4 (some (.boolean)) 1 := ⟨w_374, w_371, w_372, w_373, w_2, ⟨by decide +kernel, by decide +kernel, by decide +kernel⟩⟩
theorem ml_Law_27 : rf_LV "RayFieldLaw" 27 y_RF_clear b_RF_clear 2 none 0 := ⟨w_187, w_184, w_185, w_186, w_1, ⟨by decide +kernel, by decide +kernel, by decide +kernel⟩⟩
theorem ml_Law_30 : rf_LV "RayFieldLaw" 30 y_Md_clear b_Md_clear 2 none 0 := ⟨w_378, w_375, w_376, w_377, w_2, ⟨by decide +kernel, by decide +kernel, by decide +kernel⟩⟩
theorem ml_Law_31 : rf_LV "RayFieldLaw" 31 y_RF_ray b_RF_ray 5 (some (.boolean)) 4 := ⟨w_191, w_188, w_189, w_190, w_1, ⟨by decide +kernel, by decide +kernel, by decide +kernel⟩⟩
theorem ml_Law_35 : rf_LV "RayFieldLaw" 35 y_Md_ray b_Md_ray 5 (some (.boolean)) 4 := ⟨w_382, w_379, w_380, w_381, w_2, ⟨by decide +kernel, by decide +kernel, by decide +kernel⟩⟩
theorem ml_Law_36 : rf_LV "RayFieldLaw" 36 y_RF_met b_RF_met 1 (some (.int)) 0 := ⟨w_216, w_213, w_214, w_215, w_1, ⟨by decide +kernel, by decide +kernel, by decide +kernel⟩⟩
theorem ml_Law_40 : rf_LV "RayFieldLaw" 40 y_Md_met b_Md_met 1 (some (.int)) 0 := ⟨w_386, w_383, w_384, w_385, w_2, ⟨by decide +kernel, by decide +kernel, by decide +kernel⟩⟩
theorem ml_Law_41 : rf_LV "RayFieldLaw" 41 y_RF_wall b_RF_wall 3 (some (.int)) 1 := ⟨w_220, w_217, w_218, w_219, w_1, ⟨by decide +kernel, by decide +kernel, by decide +kernel⟩⟩
theorem ml_Law_45 : rf_LV "RayFieldLaw" 45 y_Md_wall b_Md_wall 2 (some (.int)) 1 := ⟨w_402, w_399, w_400, w_401, w_2, ⟨by decide +kernel, by decide +kernel, by decide +kernel⟩⟩
theorem ml_Law_46 : rf_LV "RayFieldLaw" 46 y_RF_isRight b_RF_isRight 3 (some (.boolean)) 1 := ⟨w_228, w_225, w_226, w_227, w_1, ⟨by decide +kernel, by decide +kernel, by decide +kernel⟩⟩
theorem ml_Law_49 : rf_LV "RayFieldLaw" 49 y_Md_isRight b_Md_isRight 2 (some (.boolean)) 1 := ⟨w_410, w_407, w_408, w_409, w_2, ⟨by decide +kernel, by decide +kernel, by decide +kernel⟩⟩
theorem ml_Law_50 : rf_LV "RayFieldLaw" 50 y_RF_times b_RF_times 4 (some (.long)) 2 := ⟨w_232, w_229, w_230, w_231, w_1, ⟨by decide +kernel, by decide +kernel, by decide +kernel⟩⟩
theorem ml_Law_54 : rf_LV "RayFieldLaw" 54 y_Md_times b_Md_times 4 (some (.long)) 2 := ⟨w_414, w_411, w_412, w_413, w_2, ⟨by decide +kernel, by decide +kernel, by decide +kernel⟩⟩
theorem ml_Law_55 : rf_LV "RayFieldLaw" 55 y_RF_along b_RF_along 3 (some (.int)) 1 := ⟨w_246, w_243, w_244, w_245, w_1, ⟨by decide +kernel, by decide +kernel, by decide +kernel⟩⟩
theorem ml_Law_58 : rf_LV "RayFieldLaw" 58 y_Md_along b_Md_along 3 (some (.int)) 1 := ⟨w_420, w_417, w_418, w_419, w_2, ⟨by decide +kernel, by decide +kernel, by decide +kernel⟩⟩
theorem ml_Law_59 : rf_LV "RayFieldLaw" 59 y_RF_within b_RF_within 6 (some (.int)) 2 := ⟨w_251, w_248, w_249, w_250, w_1, ⟨by decide +kernel, by decide +kernel, by decide +kernel⟩⟩
theorem ml_Law_63 : rf_LV "RayFieldLaw" 63 y_Md_within b_Md_within 5 (some (.int)) 2 := ⟨w_428, w_425, w_426, w_427, w_2, ⟨by decide +kernel, by decide +kernel, by decide +kernel⟩⟩
theorem ml_Law_64 : rf_LV "RayFieldLaw" 64 y_RF_on b_RF_on 5 (some (.int)) 2 := ⟨w_259, w_256, w_257, w_258, w_1, ⟨by decide +kernel, by decide +kernel, by decide +kernel⟩⟩
theorem ml_Law_67 : rf_LV "RayFieldLaw" 67 y_Md_on b_Md_on 4 (some (.int)) 2 := ⟨w_432, w_429, w_430, w_431, w_2, ⟨by decide +kernel, by decide +kernel, by decide +kernel⟩⟩
theorem ml_Law_68 : rf_LV "RayFieldLaw" 68 y_RF_of b_RF_of 4 (some (.int)) 2 := ⟨w_268, w_265, w_266, w_267, w_1, ⟨by decide +kernel, by decide +kernel, by decide +kernel⟩⟩
theorem ml_Law_71 : rf_LV "RayFieldLaw" 71 y_Md_of b_Md_of 3 (some (.int)) 2 := ⟨w_436, w_433, w_434, w_435, w_2, ⟨by decide +kernel, by decide +kernel, by decide +kernel⟩⟩
theorem ml_Law_72 : rf_LV "RayFieldLaw" 72 y_RF_look b_RF_look 2 (some (.int)) 1 := ⟨w_273, w_270, w_271, w_272, w_1, ⟨by decide +kernel, by decide +kernel, by decide +kernel⟩⟩
theorem ml_Law_75 : rf_LV "RayFieldLaw" 75 y_Md_look b_Md_look 2 (some (.int)) 1 := ⟨w_441, w_438, w_439, w_440, w_2, ⟨by decide +kernel, by decide +kernel, by decide +kernel⟩⟩
theorem ml_Md_33 : rf_LS "RayFieldModel" 33 y_Md_cross b_Md_cross 8 (some (.long)) 4 := ⟨w_354, w_352, w_353, w_2, ⟨by decide +kernel, by decide +kernel, by decide +kernel⟩⟩
theorem ml_Md_37 : rf_LV "RayFieldModel" 37 y_Md_isEnd b_Md_isEnd 4 (some (.boolean)) 3 := ⟨w_358, w_355, w_357, (big_mem (List.mem_append_left _ (List.mem_of_getElem? (i := 12) (by decide +kernel))) (by decide +kernel)), w_2, ⟨by decide +kernel, by decide +kernel, by decide +kernel⟩⟩
theorem ml_Md_41 : rf_LV "RayFieldModel" 41 y_Md_isOn b_Md_isOn 8 (some (.boolean)) 3 := ⟨w_362, w_359, w_361, (big_mem (List.mem_append_left _ (List.mem_of_getElem? (i := 13) (by decide +kernel))) (by decide +kernel)), w_2, ⟨by decide +kernel, by decide +kernel, by decide +kernel⟩⟩
theorem ml_Md_44 : rf_LV "RayFieldModel" 44 y_Md_free b_Md_free 2 (some (.int)) 0 := ⟨w_344, w_341, w_343, (big_mem (List.mem_append_left _ (List.mem_of_getElem? (i := 10) (by decide +kernel))) (by decide +kernel)), w_2, ⟨by decide +kernel, by decide +kernel, by decide +kernel⟩⟩
theorem ml_Md_48 : rf_LS "RayFieldModel" 48 y_Md_isIn b_Md_isIn 2 (some (.boolean)) 2 := ⟨w_347, w_345, w_346, w_2, ⟨by decide +kernel, by decide +kernel, by decide +kernel⟩⟩
theorem ml_Md_52 : rf_LV "RayFieldModel" 52 y_Md_areApart b_Md_areApart 14 (some (.boolean)) 2 := ⟨w_351, w_348, w_350, (big_mem (List.mem_append_left _ (List.mem_of_getElem? (i := 11) (by decide +kernel))) (by decide +kernel)), w_2, ⟨by decide +kernel, by decide +kernel, by decide +kernel⟩⟩
theorem ml_Md_58 : rf_LV "RayFieldModel" 58 y_Md_isWall b_Md_isWall 2 (some (.boolean)) 1 := ⟨w_370, w_367, w_369, (big_mem (List.mem_append_left _ (List.mem_of_getElem? (i := 14) (by decide +kernel))) (by decide +kernel)), w_2, ⟨by decide +kernel, by decide +kernel, by decide +kernel⟩⟩
theorem ml_Md_94 : rf_LV "RayFieldModel" 94 y_Md_meets b_Md_meets 2 (some (.boolean)) 1 := ⟨w_394, w_391, w_393, (big_mem (List.mem_append_left _ (List.mem_of_getElem? (i := 16) (by decide +kernel))) (by decide +kernel)), w_2, ⟨by decide +kernel, by decide +kernel, by decide +kernel⟩⟩
theorem ml_Md_97 : rf_LV "RayFieldModel" 97 y_Md_isAhead b_Md_isAhead 8 (some (.boolean)) 2 := ⟨w_398, w_395, w_397, (big_mem (List.mem_append_left _ (List.mem_of_getElem? (i := 17) (by decide +kernel))) (by decide +kernel)), w_2, ⟨by decide +kernel, by decide +kernel, by decide +kernel⟩⟩
theorem ml_Md_100 : rf_LV "RayFieldModel" 100 y_Md_gather b_Md_gather 4 (some (.int)) 0 := ⟨w_390, w_387, w_389, (big_mem (List.mem_append_left _ (List.mem_of_getElem? (i := 15) (by decide +kernel))) (by decide +kernel)), w_2, ⟨by decide +kernel, by decide +kernel, by decide +kernel⟩⟩
theorem ml_Md_103 : rf_LV "RayFieldModel" 103 y_Md_isMet b_Md_isMet 2 (some (.boolean)) 1 := ⟨w_406, w_403, w_405, (big_mem (List.mem_append_left _ (List.mem_of_getElem? (i := 18) (by decide +kernel))) (by decide +kernel)), w_2, ⟨by decide +kernel, by decide +kernel, by decide +kernel⟩⟩
theorem ml_Md_111 : rf_LS "RayFieldModel" 111 y_Md_down b_Md_down 6 (some (.long)) 2 := ⟨w_424, w_422, w_423, w_2, ⟨by decide +kernel, by decide +kernel, by decide +kernel⟩⟩
