section
-- ===== PART A: goes FIRST, ahead of the names: the tables' words, and 'selects' of the private methods out of them =====
/-- a private method of a class that the tables say can be made, by its rows of tables_1 -/
def lw_okq (q : MethodName × Nat) : Prop := (q.1.cls ≠ "java/lang/invoke/MethodHandle" ∧ q.1.cls ≠ "java/lang/invoke/VarHandle") ∧ Cond.instantiable q.1.cls q.2 ∈ tables_1 ∧ Cond.privateMethod q.1 ∈ tables_1 ∧ Cond.instanceMethod q.1 ∈ tables_1
theorem lw_p0 : lw_okq (⟨"RayField", "leastFreeNumber", "()I"⟩, 5) := ⟨⟨by decide +kernel, by decide +kernel⟩, List.mem_of_getElem? (i := 8) (by decide +kernel), List.mem_of_getElem? (i := 46) (by decide +kernel), List.mem_of_getElem? (i := 47) (by decide +kernel)⟩
theorem lw_p1 : lw_okq (⟨"RayField", "clashes", "(LRayField$Wall;)Z"⟩, 5) := ⟨⟨by decide +kernel, by decide +kernel⟩, List.mem_of_getElem? (i := 8) (by decide +kernel), List.mem_of_getElem? (i := 79) (by decide +kernel), List.mem_of_getElem? (i := 80) (by decide +kernel)⟩
theorem lw_p2 : lw_okq (⟨"RayField$Wall", "overlapsOnItsLine", "(LRayField$Wall;)Z"⟩, 4) := ⟨⟨by decide +kernel, by decide +kernel⟩, List.mem_of_getElem? (i := 52) (by decide +kernel), List.mem_of_getElem? (i := 94) (by decide +kernel), List.mem_of_getElem? (i := 95) (by decide +kernel)⟩
theorem lw_p3 : lw_okq (⟨"RayField$Wall", "sharesEndWith", "(LRayField$Wall;)Z"⟩, 4) := ⟨⟨by decide +kernel, by decide +kernel⟩, List.mem_of_getElem? (i := 52) (by decide +kernel), List.mem_of_getElem? (i := 107) (by decide +kernel), List.mem_of_getElem? (i := 108) (by decide +kernel)⟩
theorem lw_p4 : lw_okq (⟨"RayField$Wall", "hasEnd", "(II)Z"⟩, 4) := ⟨⟨by decide +kernel, by decide +kernel⟩, List.mem_of_getElem? (i := 52) (by decide +kernel), List.mem_of_getElem? (i := 111) (by decide +kernel), List.mem_of_getElem? (i := 112) (by decide +kernel)⟩
theorem lw_p5 : lw_okq (⟨"RayField", "meetAgain", "()V"⟩, 5) := ⟨⟨by decide +kernel, by decide +kernel⟩, List.mem_of_getElem? (i := 8) (by decide +kernel), List.mem_of_getElem? (i := 115) (by decide +kernel), List.mem_of_getElem? (i := 116) (by decide +kernel)⟩
theorem lw_p6 : lw_okq (⟨"RayField", "meetOne", "(ILRayField$Wall;LRayField$Ray;)V"⟩, 5) := ⟨⟨by decide +kernel, by decide +kernel⟩, List.mem_of_getElem? (i := 8) (by decide +kernel), List.mem_of_getElem? (i := 119) (by decide +kernel), List.mem_of_getElem? (i := 120) (by decide +kernel)⟩
theorem lw_p7 : lw_okq (⟨"RayField", "sortIn", "(LRayField$Meeting;)V"⟩, 5) := ⟨⟨by decide +kernel, by decide +kernel⟩, List.mem_of_getElem? (i := 8) (by decide +kernel), List.mem_of_getElem? (i := 161) (by decide +kernel), List.mem_of_getElem? (i := 162) (by decide +kernel)⟩
theorem lw_p8 : lw_okq (⟨"RayField", "wallNumbered", "(I)LRayField$Wall;"⟩, 5) := ⟨⟨by decide +kernel, by decide +kernel⟩, List.mem_of_getElem? (i := 8) (by decide +kernel), List.mem_of_getElem? (i := 173) (by decide +kernel), List.mem_of_getElem? (i := 174) (by decide +kernel)⟩
theorem lw_p9 : lw_okq (⟨"RayField", "meetingAt", "(I)LRayField$Meeting;"⟩, 5) := ⟨⟨by decide +kernel, by decide +kernel⟩, List.mem_of_getElem? (i := 8) (by decide +kernel), List.mem_of_getElem? (i := 222) (by decide +kernel), List.mem_of_getElem? (i := 223) (by decide +kernel)⟩
theorem lw_p10 : lw_okq (⟨"RayFieldModel", "free", "()I"⟩, 18) := ⟨⟨by decide +kernel, by decide +kernel⟩, List.mem_of_getElem? (i := 275) (by decide +kernel), List.mem_of_getElem? (i := 342) (by decide +kernel), List.mem_of_getElem? (i := 343) (by decide +kernel)⟩
theorem lw_p11 : lw_okq (⟨"RayFieldModel", "areApart", "(II)Z"⟩, 18) := ⟨⟨by decide +kernel, by decide +kernel⟩, List.mem_of_getElem? (i := 275) (by decide +kernel), List.mem_of_getElem? (i := 349) (by decide +kernel), List.mem_of_getElem? (i := 350) (by decide +kernel)⟩
theorem lw_p12 : lw_okq (⟨"RayFieldModel", "isEnd", "(III)Z"⟩, 18) := ⟨⟨by decide +kernel, by decide +kernel⟩, List.mem_of_getElem? (i := 275) (by decide +kernel), List.mem_of_getElem? (i := 356) (by decide +kernel), List.mem_of_getElem? (i := 357) (by decide +kernel)⟩
theorem lw_p13 : lw_okq (⟨"RayFieldModel", "isOn", "(III)Z"⟩, 18) := ⟨⟨by decide +kernel, by decide +kernel⟩, List.mem_of_getElem? (i := 275) (by decide +kernel), List.mem_of_getElem? (i := 360) (by decide +kernel), List.mem_of_getElem? (i := 361) (by decide +kernel)⟩
theorem lw_p14 : lw_okq (⟨"RayFieldModel", "isWall", "(I)Z"⟩, 18) := ⟨⟨by decide +kernel, by decide +kernel⟩, List.mem_of_getElem? (i := 275) (by decide +kernel), List.mem_of_getElem? (i := 368) (by decide +kernel), List.mem_of_getElem? (i := 369) (by decide +kernel)⟩
theorem lw_p15 : lw_okq (⟨"RayFieldModel", "gather", "()I"⟩, 18) := ⟨⟨by decide +kernel, by decide +kernel⟩, List.mem_of_getElem? (i := 275) (by decide +kernel), List.mem_of_getElem? (i := 388) (by decide +kernel), List.mem_of_getElem? (i := 389) (by decide +kernel)⟩
def lw_privs_1 : List (MethodName × Nat) := [(⟨"RayField", "leastFreeNumber", "()I"⟩, 5), (⟨"RayField", "clashes", "(LRayField$Wall;)Z"⟩, 5), (⟨"RayField$Wall", "overlapsOnItsLine", "(LRayField$Wall;)Z"⟩, 4), (⟨"RayField$Wall", "sharesEndWith", "(LRayField$Wall;)Z"⟩, 4), (⟨"RayField$Wall", "hasEnd", "(II)Z"⟩, 4), (⟨"RayField", "meetAgain", "()V"⟩, 5), (⟨"RayField", "meetOne", "(ILRayField$Wall;LRayField$Ray;)V"⟩, 5), (⟨"RayField", "sortIn", "(LRayField$Meeting;)V"⟩, 5), (⟨"RayField", "wallNumbered", "(I)LRayField$Wall;"⟩, 5), (⟨"RayField", "meetingAt", "(I)LRayField$Meeting;"⟩, 5), (⟨"RayFieldModel", "free", "()I"⟩, 18), (⟨"RayFieldModel", "areApart", "(II)Z"⟩, 18), (⟨"RayFieldModel", "isEnd", "(III)Z"⟩, 18), (⟨"RayFieldModel", "isOn", "(III)Z"⟩, 18), (⟨"RayFieldModel", "isWall", "(I)Z"⟩, 18), (⟨"RayFieldModel", "gather", "()I"⟩, 18)]
theorem lw_r1 : ∀ q ∈ lw_privs_1, lw_okq q := List.forall_mem_cons.mpr ⟨lw_p0, List.forall_mem_cons.mpr ⟨lw_p1, List.forall_mem_cons.mpr ⟨lw_p2, List.forall_mem_cons.mpr ⟨lw_p3, List.forall_mem_cons.mpr ⟨lw_p4, List.forall_mem_cons.mpr ⟨lw_p5, List.forall_mem_cons.mpr ⟨lw_p6, List.forall_mem_cons.mpr ⟨lw_p7, List.forall_mem_cons.mpr ⟨lw_p8, List.forall_mem_cons.mpr ⟨lw_p9, List.forall_mem_cons.mpr ⟨lw_p10, List.forall_mem_cons.mpr ⟨lw_p11, List.forall_mem_cons.mpr ⟨lw_p12, List.forall_mem_cons.mpr ⟨lw_p13, List.forall_mem_cons.mpr ⟨lw_p14, List.forall_mem_cons.mpr ⟨lw_p15, fun _ h => absurd h List.not_mem_nil⟩⟩⟩⟩⟩⟩⟩⟩⟩⟩⟩⟩⟩⟩⟩⟩
theorem lw_p16 : lw_okq (⟨"RayFieldModel", "meets", "(I)Z"⟩, 18) := ⟨⟨by decide +kernel, by decide +kernel⟩, List.mem_of_getElem? (i := 275) (by decide +kernel), List.mem_of_getElem? (i := 392) (by decide +kernel), List.mem_of_getElem? (i := 393) (by decide +kernel)⟩
theorem lw_p17 : lw_okq (⟨"RayFieldModel", "isAhead", "(II)Z"⟩, 18) := ⟨⟨by decide +kernel, by decide +kernel⟩, List.mem_of_getElem? (i := 275) (by decide +kernel), List.mem_of_getElem? (i := 396) (by decide +kernel), List.mem_of_getElem? (i := 397) (by decide +kernel)⟩
theorem lw_p18 : lw_okq (⟨"RayFieldModel", "isMet", "(I)Z"⟩, 18) := ⟨⟨by decide +kernel, by decide +kernel⟩, List.mem_of_getElem? (i := 275) (by decide +kernel), List.mem_of_getElem? (i := 404) (by decide +kernel), List.mem_of_getElem? (i := 405) (by decide +kernel)⟩
def lw_privs_2 : List (MethodName × Nat) := [(⟨"RayFieldModel", "meets", "(I)Z"⟩, 18), (⟨"RayFieldModel", "isAhead", "(II)Z"⟩, 18), (⟨"RayFieldModel", "isMet", "(I)Z"⟩, 18)]
theorem lw_r2 : ∀ q ∈ lw_privs_2, lw_okq q := List.forall_mem_cons.mpr ⟨lw_p16, List.forall_mem_cons.mpr ⟨lw_p17, List.forall_mem_cons.mpr ⟨lw_p18, fun _ h => absurd h List.not_mem_nil⟩⟩⟩
def lw_privs : List (MethodName × Nat) := lw_privs_1 ++ (lw_privs_2)
def lw_tbl : List Cond := k2_sels lw_privs ++ tables_1
theorem lw_privs_ok : ∀ q ∈ lw_privs, lw_okq q := by
  show ∀ q ∈ lw_privs_1 ++ (lw_privs_2), lw_okq q
  exact List.forall_mem_append.mpr ⟨lw_r1, lw_r2⟩
def BIG : List Cond := lw_tbl.filter goodWord
theorem big_mem {w : Cond} (h : w ∈ lw_tbl) (g : goodWord w = true) : w ∈ BIG := List.mem_filter.mpr ⟨h, g⟩
def F_Wall : u_T := fun k => match k with
  | 0 => ("RayField$Wall", "ax", "I", false)
  | 1 => ("RayField$Wall", "ay", "I", false)
  | 2 => ("RayField$Wall", "bx", "I", false)
  | _ => ("RayField$Wall", "by", "I", false)
def t_Wall : Nat → FieldType := fun k => match k with
  | 0 => .int
  | 1 => .int
  | 2 => .int
  | _ => .int
theorem nn_Wall : ∀ a, a < 4 → ∀ b, b < 4 → a ≠ b → (F_Wall a).2.1 ≠ (F_Wall b).2.1 := by decide +kernel
theorem tok_Wall : ∀ k, k < 4 → parseFieldDescriptor (F_Wall k).2.2.1 = some (t_Wall k) := by decide +kernel
theorem in_Wall : ∀ w ∈ u_ws "RayField$Wall" F_Wall 4, w ∈ BIG := by decide +kernel
def F_Ray : u_T := fun k => match k with
  | 0 => ("RayField$Ray", "ex", "I", true)
  | 1 => ("RayField$Ray", "ey", "I", true)
  | 2 => ("RayField$Ray", "dx", "I", true)
  | _ => ("RayField$Ray", "dy", "I", true)
def t_Ray : Nat → FieldType := fun k => match k with
  | 0 => .int
  | 1 => .int
  | 2 => .int
  | _ => .int
theorem nn_Ray : ∀ a, a < 4 → ∀ b, b < 4 → a ≠ b → (F_Ray a).2.1 ≠ (F_Ray b).2.1 := by decide +kernel
theorem tok_Ray : ∀ k, k < 4 → parseFieldDescriptor (F_Ray k).2.2.1 = some (t_Ray k) := by decide +kernel
theorem in_Ray : ∀ w ∈ u_ws "RayField$Ray" F_Ray 4, w ∈ BIG := by decide +kernel
def F_Meeting : u_T := fun k => match k with
  | 0 => ("RayField$Meeting", "number", "I", false)
  | 1 => ("RayField$Meeting", "fromRight", "Z", false)
  | 2 => ("RayField$Meeting", "distance", "J", false)
  | 3 => ("RayField$Meeting", "advance", "J", false)
  | _ => ("RayField$Meeting", "divisor", "J", false)
def t_Meeting : Nat → FieldType := fun k => match k with
  | 0 => .int
  | 1 => .boolean
  | 2 => .long
  | 3 => .long
  | _ => .long
theorem nn_Meeting : ∀ a, a < 5 → ∀ b, b < 5 → a ≠ b → (F_Meeting a).2.1 ≠ (F_Meeting b).2.1 := by decide +kernel
theorem tok_Meeting : ∀ k, k < 5 → parseFieldDescriptor (F_Meeting k).2.2.1 = some (t_Meeting k) := by decide +kernel
theorem in_Meeting : ∀ w ∈ u_ws "RayField$Meeting" F_Meeting 5, w ∈ BIG := by decide +kernel
def F_RF : u_T := fun k => match k with
  | 0 => ("RayField", "walls", "[LRayField$Wall;", true)
  | 1 => ("RayField", "wallCount", "I", false)
  | 2 => ("RayField", "theRay", "LRayField$Ray;", false)
  | 3 => ("RayField", "meetings", "[LRayField$Meeting;", true)
  | _ => ("RayField", "metCount", "I", false)
def t_RF : Nat → FieldType := fun k => match k with
  | 0 => .array (.object "RayField$Wall")
  | 1 => .int
  | 2 => .object "RayField$Ray"
  | 3 => .array (.object "RayField$Meeting")
  | _ => .int
theorem nn_RF : ∀ a, a < 5 → ∀ b, b < 5 → a ≠ b → (F_RF a).2.1 ≠ (F_RF b).2.1 := by decide +kernel
theorem tok_RF : ∀ k, k < 5 → parseFieldDescriptor (F_RF k).2.2.1 = some (t_RF k) := by decide +kernel
theorem in_RF : ∀ w ∈ u_ws "RayField" F_RF 5, w ∈ BIG := by decide +kernel
def F_Md : u_T := fun k => match k with
  | 0 => ("RayFieldModel", "thrown", "I", false)
  | 1 => ("RayFieldModel", "there", "[Z", true)
  | 2 => ("RayFieldModel", "ax", "[I", true)
  | 3 => ("RayFieldModel", "ay", "[I", true)
  | 4 => ("RayFieldModel", "bx", "[I", true)
  | 5 => ("RayFieldModel", "by", "[I", true)
  | 6 => ("RayFieldModel", "many", "I", false)
  | 7 => ("RayFieldModel", "hasRay", "Z", false)
  | 8 => ("RayFieldModel", "ex", "I", false)
  | 9 => ("RayFieldModel", "ey", "I", false)
  | 10 => ("RayFieldModel", "dx", "I", false)
  | 11 => ("RayFieldModel", "dy", "I", false)
  | 12 => ("RayFieldModel", "above", "J", false)
  | 13 => ("RayFieldModel", "below", "J", false)
  | 14 => ("RayFieldModel", "right", "Z", false)
  | 15 => ("RayFieldModel", "one", "J", false)
  | 16 => ("RayFieldModel", "two", "J", false)
  | _ => ("RayFieldModel", "row", "[I", true)
def t_Md : Nat → FieldType := fun k => match k with
  | 0 => .int
  | 1 => .array (.boolean)
  | 2 => .array (.int)
  | 3 => .array (.int)
  | 4 => .array (.int)
  | 5 => .array (.int)
  | 6 => .int
  | 7 => .boolean
  | 8 => .int
  | 9 => .int
  | 10 => .int
  | 11 => .int
  | 12 => .long
  | 13 => .long
  | 14 => .boolean
  | 15 => .long
  | 16 => .long
  | _ => .array (.int)
theorem nn_Md : ∀ a, a < 18 → ∀ b, b < 18 → a ≠ b → (F_Md a).2.1 ≠ (F_Md b).2.1 := by decide +kernel
theorem tok_Md : ∀ k, k < 18 → parseFieldDescriptor (F_Md k).2.2.1 = some (t_Md k) := by decide +kernel
theorem in_Md : ∀ w ∈ u_ws "RayFieldModel" F_Md 18, w ∈ BIG := by decide +kernel
abbrev vwCl : List vw_C := [("RayField$Wall", F_Wall, 4), ("RayField$Ray", F_Ray, 4), ("RayField$Meeting", F_Meeting, 5), ("RayField", F_RF, 5), ("RayFieldModel", F_Md, 18)]
abbrev b_RF_init : ByteArray := prog_1_method_1_code
abbrev y_RF_init : MethodName := ⟨"RayField", "<init>", "()V"⟩
abbrev b_RF_put : ByteArray := prog_1_method_2_code
abbrev y_RF_put : MethodName := ⟨"RayField", "put", "(IIII)I"⟩
abbrev b_RF_take : ByteArray := prog_1_method_3_code
abbrev y_RF_take : MethodName := ⟨"RayField", "take", "(I)Z"⟩
abbrev b_RF_turn : ByteArray := prog_1_method_4_code
abbrev y_RF_turn : MethodName := ⟨"RayField", "turn", "(I)Z"⟩
abbrev b_RF_clear : ByteArray := prog_1_method_5_code
abbrev y_RF_clear : MethodName := ⟨"RayField", "clear", "()V"⟩
abbrev b_RF_ray : ByteArray := prog_1_method_6_code
abbrev y_RF_ray : MethodName := ⟨"RayField", "ray", "(IIII)Z"⟩
abbrev b_RF_met : ByteArray := prog_1_method_7_code
abbrev y_RF_met : MethodName := ⟨"RayField", "met", "()I"⟩
abbrev b_RF_wall : ByteArray := prog_1_method_8_code
abbrev y_RF_wall : MethodName := ⟨"RayField", "wall", "(I)I"⟩
abbrev b_RF_isRight : ByteArray := prog_1_method_9_code
abbrev y_RF_isRight : MethodName := ⟨"RayField", "isRight", "(I)Z"⟩
abbrev b_RF_times : ByteArray := prog_1_method_10_code
abbrev y_RF_times : MethodName := ⟨"RayField", "times", "(II)J"⟩
abbrev b_RF_along : ByteArray := prog_1_method_11_code
abbrev y_RF_along : MethodName := ⟨"RayField", "along", "(I)I"⟩
abbrev b_RF_within : ByteArray := prog_1_method_12_code
abbrev y_RF_within : MethodName := ⟨"RayField", "within", "(II)I"⟩
abbrev b_RF_on : ByteArray := prog_1_method_13_code
abbrev y_RF_on : MethodName := ⟨"RayField", "on", "(II)I"⟩
abbrev b_RF_of : ByteArray := prog_1_method_14_code
abbrev y_RF_of : MethodName := ⟨"RayField", "of", "(II)I"⟩
abbrev b_RF_look : ByteArray := prog_1_method_15_code
abbrev y_RF_look : MethodName := ⟨"RayField", "look", "(I)I"⟩
abbrev b_RF_leastFreeNumber : ByteArray := prog_1_method_16_code
abbrev y_RF_leastFreeNumber : MethodName := ⟨"RayField", "leastFreeNumber", "()I"⟩
abbrev b_RF_wallNumbered : ByteArray := prog_1_method_17_code
abbrev y_RF_wallNumbered : MethodName := ⟨"RayField", "wallNumbered", "(I)LRayField$Wall;"⟩
abbrev b_RF_clashes : ByteArray := prog_1_method_18_code
abbrev y_RF_clashes : MethodName := ⟨"RayField", "clashes", "(LRayField$Wall;)Z"⟩
abbrev b_RF_meetingAt : ByteArray := prog_1_method_19_code
abbrev y_RF_meetingAt : MethodName := ⟨"RayField", "meetingAt", "(I)LRayField$Meeting;"⟩
abbrev b_RF_meetAgain : ByteArray := prog_1_method_20_code
abbrev y_RF_meetAgain : MethodName := ⟨"RayField", "meetAgain", "()V"⟩
abbrev b_RF_meetOne : ByteArray := prog_1_method_21_code
abbrev y_RF_meetOne : MethodName := ⟨"RayField", "meetOne", "(ILRayField$Wall;LRayField$Ray;)V"⟩
abbrev b_RF_sortIn : ByteArray := prog_1_method_22_code
abbrev y_RF_sortIn : MethodName := ⟨"RayField", "sortIn", "(LRayField$Meeting;)V"⟩
abbrev b_RF_isNumber : ByteArray := prog_1_method_23_code
abbrev y_RF_isNumber : MethodName := ⟨"RayField", "isNumber", "(I)Z"⟩
abbrev b_RF_isPlace : ByteArray := prog_1_method_24_code
abbrev y_RF_isPlace : MethodName := ⟨"RayField", "isPlace", "(III)Z"⟩
abbrev b_RF_isBetween : ByteArray := prog_1_method_25_code
abbrev y_RF_isBetween : MethodName := ⟨"RayField", "isBetween", "(III)Z"⟩
abbrev b_RF_cross : ByteArray := prog_1_method_26_code
abbrev y_RF_cross : MethodName := ⟨"RayField", "cross", "(JJJJ)J"⟩
abbrev b_Md_init : ByteArray := prog_6_method_1_code
abbrev y_Md_init : MethodName := ⟨"RayFieldModel", "<init>", "()V"⟩
abbrev b_Md_cross : ByteArray := prog_6_method_3_code
abbrev y_Md_cross : MethodName := ⟨"RayFieldModel", "cross", "(JJJJ)J"⟩
abbrev b_Md_isIn : ByteArray := prog_6_method_4_code
abbrev y_Md_isIn : MethodName := ⟨"RayFieldModel", "isIn", "(II)Z"⟩
abbrev b_Md_free : ByteArray := prog_6_method_5_code
abbrev y_Md_free : MethodName := ⟨"RayFieldModel", "free", "()I"⟩
abbrev b_Md_isOn : ByteArray := prog_6_method_6_code
abbrev y_Md_isOn : MethodName := ⟨"RayFieldModel", "isOn", "(III)Z"⟩
abbrev b_Md_isEnd : ByteArray := prog_6_method_7_code
abbrev y_Md_isEnd : MethodName := ⟨"RayFieldModel", "isEnd", "(III)Z"⟩
abbrev b_Md_areApart : ByteArray := prog_6_method_8_code
abbrev y_Md_areApart : MethodName := ⟨"RayFieldModel", "areApart", "(II)Z"⟩
abbrev b_Md_put : ByteArray := prog_6_method_9_code
abbrev y_Md_put : MethodName := ⟨"RayFieldModel", "put", "(IIII)I"⟩
abbrev b_Md_isWall : ByteArray := prog_6_method_10_code
abbrev y_Md_isWall : MethodName := ⟨"RayFieldModel", "isWall", "(I)Z"⟩
abbrev b_Md_take : ByteArray := prog_6_method_11_code
abbrev y_Md_take : MethodName := ⟨"RayFieldModel", "take", "(I)Z"⟩
abbrev b_Md_turn : ByteArray := prog_6_method_12_code
abbrev y_Md_turn : MethodName := ⟨"RayFieldModel", "turn", "(I)Z"⟩
abbrev b_Md_clear : ByteArray := prog_6_method_13_code
abbrev y_Md_clear : MethodName := ⟨"RayFieldModel", "clear", "()V"⟩
abbrev b_Md_ray : ByteArray := prog_6_method_14_code
abbrev y_Md_ray : MethodName := ⟨"RayFieldModel", "ray", "(IIII)Z"⟩
abbrev b_Md_meets : ByteArray := prog_6_method_15_code
abbrev y_Md_meets : MethodName := ⟨"RayFieldModel", "meets", "(I)Z"⟩
abbrev b_Md_isAhead : ByteArray := prog_6_method_16_code
abbrev y_Md_isAhead : MethodName := ⟨"RayFieldModel", "isAhead", "(II)Z"⟩
abbrev b_Md_gather : ByteArray := prog_6_method_17_code
abbrev y_Md_gather : MethodName := ⟨"RayFieldModel", "gather", "()I"⟩
abbrev b_Md_met : ByteArray := prog_6_method_18_code
abbrev y_Md_met : MethodName := ⟨"RayFieldModel", "met", "()I"⟩
abbrev b_Md_isMet : ByteArray := prog_6_method_19_code
abbrev y_Md_isMet : MethodName := ⟨"RayFieldModel", "isMet", "(I)Z"⟩
abbrev b_Md_wall : ByteArray := prog_6_method_20_code
abbrev y_Md_wall : MethodName := ⟨"RayFieldModel", "wall", "(I)I"⟩
abbrev b_Md_isRight : ByteArray := prog_6_method_21_code
abbrev y_Md_isRight : MethodName := ⟨"RayFieldModel", "isRight", "(I)Z"⟩
abbrev b_Md_times : ByteArray := prog_6_method_22_code
abbrev y_Md_times : MethodName := ⟨"RayFieldModel", "times", "(II)J"⟩
abbrev b_Md_down : ByteArray := prog_6_method_23_code
abbrev y_Md_down : MethodName := ⟨"RayFieldModel", "down", "(JJ)J"⟩
abbrev b_Md_along : ByteArray := prog_6_method_24_code
abbrev y_Md_along : MethodName := ⟨"RayFieldModel", "along", "(I)I"⟩
abbrev b_Md_within : ByteArray := prog_6_method_25_code
abbrev y_Md_within : MethodName := ⟨"RayFieldModel", "within", "(II)I"⟩
abbrev b_Md_on : ByteArray := prog_6_method_26_code
abbrev y_Md_on : MethodName := ⟨"RayFieldModel", "on", "(II)I"⟩
abbrev b_Md_of : ByteArray := prog_6_method_27_code
abbrev y_Md_of : MethodName := ⟨"RayFieldModel", "of", "(II)I"⟩
abbrev b_Md_look : ByteArray := prog_6_method_28_code
abbrev y_Md_look : MethodName := ⟨"RayFieldModel", "look", "(I)I"⟩
abbrev b_Meeting_init : ByteArray := prog_2_method_1_code
abbrev y_Meeting_init : MethodName := ⟨"RayField$Meeting", "<init>", "()V"⟩
abbrev b_Meeting_fill : ByteArray := prog_2_method_2_code
abbrev y_Meeting_fill : MethodName := ⟨"RayField$Meeting", "fill", "(ILRayField$Wall;LRayField$Ray;)Z"⟩
abbrev b_Meeting_isNearerThan : ByteArray := prog_2_method_3_code
abbrev y_Meeting_isNearerThan : MethodName := ⟨"RayField$Meeting", "isNearerThan", "(LRayField$Meeting;)Z"⟩
abbrev b_Meeting_isAtMost : ByteArray := prog_2_method_4_code
abbrev y_Meeting_isAtMost : MethodName := ⟨"RayField$Meeting", "isAtMost", "(JJ)Z"⟩
abbrev b_Meeting_roundedDown : ByteArray := prog_2_method_5_code
abbrev y_Meeting_roundedDown : MethodName := ⟨"RayField$Meeting", "roundedDown", "(J)J"⟩
abbrev b_Ray_init : ByteArray := prog_3_method_1_code
abbrev y_Ray_init : MethodName := ⟨"RayField$Ray", "<init>", "(IIII)V"⟩
abbrev b_Ray_side : ByteArray := prog_3_method_2_code
abbrev y_Ray_side : MethodName := ⟨"RayField$Ray", "side", "(II)J"⟩
abbrev b_Wall_init : ByteArray := prog_4_method_1_code
abbrev y_Wall_init : MethodName := ⟨"RayField$Wall", "<init>", "(IIII)V"⟩
abbrev b_Wall_exchangeEnds : ByteArray := prog_4_method_2_code
abbrev y_Wall_exchangeEnds : MethodName := ⟨"RayField$Wall", "exchangeEnds", "()V"⟩
abbrev b_Wall_side : ByteArray := prog_4_method_3_code
abbrev y_Wall_side : MethodName := ⟨"RayField$Wall", "side", "(II)J"⟩
abbrev b_Wall_covers : ByteArray := prog_4_method_4_code
abbrev y_Wall_covers : MethodName := ⟨"RayField$Wall", "covers", "(II)Z"⟩
abbrev b_Wall_clashesWith : ByteArray := prog_4_method_5_code
abbrev y_Wall_clashesWith : MethodName := ⟨"RayField$Wall", "clashesWith", "(LRayField$Wall;)Z"⟩
abbrev b_Wall_overlapsOnItsLine : ByteArray := prog_4_method_6_code
abbrev y_Wall_overlapsOnItsLine : MethodName := ⟨"RayField$Wall", "overlapsOnItsLine", "(LRayField$Wall;)Z"⟩
abbrev b_Wall_sharesEndWith : ByteArray := prog_4_method_7_code
abbrev y_Wall_sharesEndWith : MethodName := ⟨"RayField$Wall", "sharesEndWith", "(LRayField$Wall;)Z"⟩
abbrev b_Wall_hasEnd : ByteArray := prog_4_method_8_code
abbrev y_Wall_hasEnd : MethodName := ⟨"RayField$Wall", "hasEnd", "(II)Z"⟩
abbrev b_Wall_commonLength : ByteArray := prog_4_method_9_code
abbrev y_Wall_commonLength : MethodName := ⟨"RayField$Wall", "commonLength", "(IIII)I"⟩
abbrev b_Math_floorDiv : ByteArray := prog_7_method_49_code
abbrev y_Math_floorDiv : MethodName := ⟨"java/lang/Math", "floorDiv", "(JJ)J"⟩
theorem w_0 : (Jvm.Cond.initialized "RayFieldLaw") ∈ BIG := big_mem (List.mem_append_right _ (List.mem_of_getElem? (i := 0) (by decide +kernel))) (by decide +kernel)
theorem w_1 : (Jvm.Cond.initialized "RayField") ∈ BIG := big_mem (List.mem_append_right _ (List.mem_of_getElem? (i := 1) (by decide +kernel))) (by decide +kernel)
theorem w_2 : (Jvm.Cond.initialized "RayFieldModel") ∈ BIG := big_mem (List.mem_append_right _ (List.mem_of_getElem? (i := 2) (by decide +kernel))) (by decide +kernel)
theorem w_3 : (Jvm.Cond.initialized "RayField$Wall") ∈ BIG := big_mem (List.mem_append_right _ (List.mem_of_getElem? (i := 3) (by decide +kernel))) (by decide +kernel)
theorem w_4 : (Jvm.Cond.initialized "java/lang/Math") ∈ BIG := big_mem (List.mem_append_right _ (List.mem_of_getElem? (i := 4) (by decide +kernel))) (by decide +kernel)
theorem w_5 : (Jvm.Cond.initialized "RayField$Meeting") ∈ BIG := big_mem (List.mem_append_right _ (List.mem_of_getElem? (i := 5) (by decide +kernel))) (by decide +kernel)
theorem w_6 : (Jvm.Cond.initialized "RayField$Ray") ∈ BIG := big_mem (List.mem_append_right _ (List.mem_of_getElem? (i := 6) (by decide +kernel))) (by decide +kernel)
theorem w_7 : (Jvm.Cond.classLink "RayFieldLaw" (7 : Nat) "RayField") ∈ BIG := big_mem (List.mem_append_right _ (List.mem_of_getElem? (i := 7) (by decide +kernel))) (by decide +kernel)
theorem w_8 : (Jvm.Cond.instantiable "RayField" (5 : Nat)) ∈ BIG := big_mem (List.mem_append_right _ (List.mem_of_getElem? (i := 8) (by decide +kernel))) (by decide +kernel)
theorem w_9 : (Jvm.Cond.methodLink "RayFieldLaw" (9 : Nat) ({ cls := "RayField", name := "<init>", desc := "()V" } : Jvm.MethodName)) ∈ BIG := big_mem (List.mem_append_right _ (List.mem_of_getElem? (i := 9) (by decide +kernel))) (by decide +kernel)
theorem w_10 : (Jvm.Cond.instanceMethod ({ cls := "RayField", name := "<init>", desc := "()V" } : Jvm.MethodName)) ∈ BIG := big_mem (List.mem_append_right _ (List.mem_of_getElem? (i := 10) (by decide +kernel))) (by decide +kernel)
theorem w_11 : (Jvm.Cond.code ({ cls := "RayField", name := "<init>", desc := "()V" } : Jvm.MethodName) prog_1_method_1_code (1 : Nat) (Option.none : Option Jvm.ClassFile.FieldType)) ∈ BIG := big_mem (List.mem_append_right _ (List.mem_of_getElem? (i := 11) (by decide +kernel))) (by decide +kernel)
theorem w_12 : (Jvm.Cond.methodLink "RayField" (1 : Nat) ({ cls := "java/lang/Object", name := "<init>", desc := "()V" } : Jvm.MethodName)) ∈ BIG := big_mem (List.mem_append_right _ (List.mem_of_getElem? (i := 12) (by decide +kernel))) (by decide +kernel)
theorem w_13 : (Jvm.Cond.instanceMethod ({ cls := "java/lang/Object", name := "<init>", desc := "()V" } : Jvm.MethodName)) ∈ BIG := big_mem (List.mem_append_right _ (List.mem_of_getElem? (i := 13) (by decide +kernel))) (by decide +kernel)
theorem w_14 : (Jvm.Cond.code ({ cls := "java/lang/Object", name := "<init>", desc := "()V" } : Jvm.MethodName) object_method_1_code (1 : Nat) (Option.none : Option Jvm.ClassFile.FieldType)) ∈ BIG := big_mem (List.mem_append_right _ (List.mem_of_getElem? (i := 14) (by decide +kernel))) (by decide +kernel)
theorem w_15 : (Jvm.Cond.classLink "RayField" (9 : Nat) "RayField$Wall") ∈ BIG := big_mem (List.mem_append_right _ (List.mem_of_getElem? (i := 15) (by decide +kernel))) (by decide +kernel)
theorem w_16 : (Jvm.Cond.arrayOver (Jvm.ClassFile.FieldType.object "RayField$Wall")) ∈ lw_tbl := (List.mem_append_right _ (List.mem_of_getElem? (i := 16) (by decide +kernel)))
theorem w_17 : (Jvm.Cond.classLink "RayField" (15 : Nat) "RayField$Meeting") ∈ BIG := big_mem (List.mem_append_right _ (List.mem_of_getElem? (i := 17) (by decide +kernel))) (by decide +kernel)
theorem w_18 : (Jvm.Cond.arrayOver (Jvm.ClassFile.FieldType.object "RayField$Meeting")) ∈ lw_tbl := (List.mem_append_right _ (List.mem_of_getElem? (i := 18) (by decide +kernel)))
theorem w_19 : (Jvm.Cond.fieldLink "RayField" (11 : Nat) "RayField" "walls" "[LRayField$Wall;") ∈ BIG := big_mem (List.mem_append_right _ (List.mem_of_getElem? (i := 19) (by decide +kernel))) (by decide +kernel)
theorem w_20 : (Jvm.Cond.fieldLink "RayField" (40 : Nat) "RayField" "wallCount" "I") ∈ BIG := big_mem (List.mem_append_right _ (List.mem_of_getElem? (i := 20) (by decide +kernel))) (by decide +kernel)
theorem w_21 : (Jvm.Cond.fieldLink "RayField" (57 : Nat) "RayField" "theRay" "LRayField$Ray;") ∈ BIG := big_mem (List.mem_append_right _ (List.mem_of_getElem? (i := 21) (by decide +kernel))) (by decide +kernel)
theorem w_22 : (Jvm.Cond.fieldLink "RayField" (17 : Nat) "RayField" "meetings" "[LRayField$Meeting;") ∈ BIG := big_mem (List.mem_append_right _ (List.mem_of_getElem? (i := 22) (by decide +kernel))) (by decide +kernel)
theorem w_23 : (Jvm.Cond.fieldLink "RayField" (61 : Nat) "RayField" "metCount" "I") ∈ BIG := big_mem (List.mem_append_right _ (List.mem_of_getElem? (i := 23) (by decide +kernel))) (by decide +kernel)
theorem w_24 : (Jvm.Cond.laysFinal "RayField" "RayField" "walls" "[LRayField$Wall;") ∈ BIG := big_mem (List.mem_append_right _ (List.mem_of_getElem? (i := 24) (by decide +kernel))) (by decide +kernel)
theorem w_26 : (Jvm.Cond.lays "RayField" "RayField" "wallCount" "I") ∈ BIG := big_mem (List.mem_append_right _ (List.mem_of_getElem? (i := 26) (by decide +kernel))) (by decide +kernel)
theorem w_28 : (Jvm.Cond.lays "RayField" "RayField" "theRay" "LRayField$Ray;") ∈ BIG := big_mem (List.mem_append_right _ (List.mem_of_getElem? (i := 28) (by decide +kernel))) (by decide +kernel)
theorem w_30 : (Jvm.Cond.laysFinal "RayField" "RayField" "meetings" "[LRayField$Meeting;") ∈ BIG := big_mem (List.mem_append_right _ (List.mem_of_getElem? (i := 30) (by decide +kernel))) (by decide +kernel)
theorem w_32 : (Jvm.Cond.lays "RayField" "RayField" "metCount" "I") ∈ BIG := big_mem (List.mem_append_right _ (List.mem_of_getElem? (i := 32) (by decide +kernel))) (by decide +kernel)
theorem w_35 : (Jvm.Cond.methodLink "RayFieldLaw" (13 : Nat) ({ cls := "RayField", name := "put", desc := "(IIII)I" } : Jvm.MethodName)) ∈ BIG := big_mem (List.mem_append_right _ (List.mem_of_getElem? (i := 35) (by decide +kernel))) (by decide +kernel)
theorem w_36 : (Jvm.Cond.instanceMethod ({ cls := "RayField", name := "put", desc := "(IIII)I" } : Jvm.MethodName)) ∈ BIG := big_mem (List.mem_append_right _ (List.mem_of_getElem? (i := 36) (by decide +kernel))) (by decide +kernel)
theorem w_37 : (Jvm.Cond.selects "RayField" ({ cls := "RayField", name := "put", desc := "(IIII)I" } : Jvm.MethodName) ({ cls := "RayField", name := "put", desc := "(IIII)I" } : Jvm.MethodName)) ∈ BIG := big_mem (List.mem_append_right _ (List.mem_of_getElem? (i := 37) (by decide +kernel))) (by decide +kernel)
theorem w_38 : (Jvm.Cond.code ({ cls := "RayField", name := "put", desc := "(IIII)I" } : Jvm.MethodName) prog_1_method_2_code (7 : Nat) (Option.some Jvm.ClassFile.FieldType.int)) ∈ BIG := big_mem (List.mem_append_right _ (List.mem_of_getElem? (i := 38) (by decide +kernel))) (by decide +kernel)
theorem w_39 : (Jvm.Cond.methodLink "RayField" (21 : Nat) ({ cls := "RayField", name := "isPlace", desc := "(III)Z" } : Jvm.MethodName)) ∈ BIG := big_mem (List.mem_append_right _ (List.mem_of_getElem? (i := 39) (by decide +kernel))) (by decide +kernel)
theorem w_40 : (Jvm.Cond.static ({ cls := "RayField", name := "isPlace", desc := "(III)Z" } : Jvm.MethodName)) ∈ BIG := big_mem (List.mem_append_right _ (List.mem_of_getElem? (i := 40) (by decide +kernel))) (by decide +kernel)
theorem w_41 : (Jvm.Cond.code ({ cls := "RayField", name := "isPlace", desc := "(III)Z" } : Jvm.MethodName) prog_1_method_24_code (3 : Nat) (Option.some Jvm.ClassFile.FieldType.boolean)) ∈ BIG := big_mem (List.mem_append_right _ (List.mem_of_getElem? (i := 41) (by decide +kernel))) (by decide +kernel)
theorem w_42 : (Jvm.Cond.methodLink "RayField" (76 : Nat) ({ cls := "RayField", name := "isBetween", desc := "(III)Z" } : Jvm.MethodName)) ∈ BIG := big_mem (List.mem_append_right _ (List.mem_of_getElem? (i := 42) (by decide +kernel))) (by decide +kernel)
theorem w_43 : (Jvm.Cond.static ({ cls := "RayField", name := "isBetween", desc := "(III)Z" } : Jvm.MethodName)) ∈ BIG := big_mem (List.mem_append_right _ (List.mem_of_getElem? (i := 43) (by decide +kernel))) (by decide +kernel)
theorem w_44 : (Jvm.Cond.code ({ cls := "RayField", name := "isBetween", desc := "(III)Z" } : Jvm.MethodName) prog_1_method_25_code (3 : Nat) (Option.some Jvm.ClassFile.FieldType.boolean)) ∈ BIG := big_mem (List.mem_append_right _ (List.mem_of_getElem? (i := 44) (by decide +kernel))) (by decide +kernel)
theorem w_45 : (Jvm.Cond.methodLink "RayField" (25 : Nat) ({ cls := "RayField", name := "leastFreeNumber", desc := "()I" } : Jvm.MethodName)) ∈ BIG := big_mem (List.mem_append_right _ (List.mem_of_getElem? (i := 45) (by decide +kernel))) (by decide +kernel)
theorem w_47 : (Jvm.Cond.instanceMethod ({ cls := "RayField", name := "leastFreeNumber", desc := "()I" } : Jvm.MethodName)) ∈ BIG := big_mem (List.mem_append_right _ (List.mem_of_getElem? (i := 47) (by decide +kernel))) (by decide +kernel)
theorem w_48 : (Jvm.Cond.code ({ cls := "RayField", name := "leastFreeNumber", desc := "()I" } : Jvm.MethodName) prog_1_method_16_code (2 : Nat) (Option.some Jvm.ClassFile.FieldType.int)) ∈ BIG := big_mem (List.mem_append_right _ (List.mem_of_getElem? (i := 48) (by decide +kernel))) (by decide +kernel)
theorem w_49 : (Jvm.Cond.methodLink "RayField" (29 : Nat) ({ cls := "RayField", name := "isNumber", desc := "(I)Z" } : Jvm.MethodName)) ∈ BIG := big_mem (List.mem_append_right _ (List.mem_of_getElem? (i := 49) (by decide +kernel))) (by decide +kernel)
theorem w_50 : (Jvm.Cond.static ({ cls := "RayField", name := "isNumber", desc := "(I)Z" } : Jvm.MethodName)) ∈ BIG := big_mem (List.mem_append_right _ (List.mem_of_getElem? (i := 50) (by decide +kernel))) (by decide +kernel)
theorem w_51 : (Jvm.Cond.code ({ cls := "RayField", name := "isNumber", desc := "(I)Z" } : Jvm.MethodName) prog_1_method_23_code (1 : Nat) (Option.some Jvm.ClassFile.FieldType.boolean)) ∈ BIG := big_mem (List.mem_append_right _ (List.mem_of_getElem? (i := 51) (by decide +kernel))) (by decide +kernel)
theorem w_52 : (Jvm.Cond.instantiable "RayField$Wall" (4 : Nat)) ∈ BIG := big_mem (List.mem_append_right _ (List.mem_of_getElem? (i := 52) (by decide +kernel))) (by decide +kernel)
theorem w_53 : (Jvm.Cond.methodLink "RayField" (33 : Nat) ({ cls := "RayField$Wall", name := "<init>", desc := "(IIII)V" } : Jvm.MethodName)) ∈ BIG := big_mem (List.mem_append_right _ (List.mem_of_getElem? (i := 53) (by decide +kernel))) (by decide +kernel)
theorem w_54 : (Jvm.Cond.instanceMethod ({ cls := "RayField$Wall", name := "<init>", desc := "(IIII)V" } : Jvm.MethodName)) ∈ BIG := big_mem (List.mem_append_right _ (List.mem_of_getElem? (i := 54) (by decide +kernel))) (by decide +kernel)
theorem w_55 : (Jvm.Cond.code ({ cls := "RayField$Wall", name := "<init>", desc := "(IIII)V" } : Jvm.MethodName) prog_4_method_1_code (5 : Nat) (Option.none : Option Jvm.ClassFile.FieldType)) ∈ BIG := big_mem (List.mem_append_right _ (List.mem_of_getElem? (i := 55) (by decide +kernel))) (by decide +kernel)
theorem w_56 : (Jvm.Cond.methodLink "RayField$Wall" (1 : Nat) ({ cls := "java/lang/Object", name := "<init>", desc := "()V" } : Jvm.MethodName)) ∈ BIG := big_mem (List.mem_append_right _ (List.mem_of_getElem? (i := 56) (by decide +kernel))) (by decide +kernel)
theorem w_57 : (Jvm.Cond.fieldLink "RayField$Wall" (7 : Nat) "RayField$Wall" "ax" "I") ∈ BIG := big_mem (List.mem_append_right _ (List.mem_of_getElem? (i := 57) (by decide +kernel))) (by decide +kernel)
theorem w_58 : (Jvm.Cond.fieldLinkNest "RayField$Meeting" (9 : Nat) "RayField$Wall" "ax" "I" "RayField") ∈ lw_tbl := (List.mem_append_right _ (List.mem_of_getElem? (i := 58) (by decide +kernel)))
theorem w_59 : (Jvm.Cond.fieldLinkNest "RayField" (103 : Nat) "RayField$Wall" "ax" "I" "RayField") ∈ lw_tbl := (List.mem_append_right _ (List.mem_of_getElem? (i := 59) (by decide +kernel)))
theorem w_60 : (Jvm.Cond.fieldLink "RayField$Wall" (13 : Nat) "RayField$Wall" "ay" "I") ∈ BIG := big_mem (List.mem_append_right _ (List.mem_of_getElem? (i := 60) (by decide +kernel))) (by decide +kernel)
theorem w_61 : (Jvm.Cond.fieldLinkNest "RayField$Meeting" (15 : Nat) "RayField$Wall" "ay" "I" "RayField") ∈ lw_tbl := (List.mem_append_right _ (List.mem_of_getElem? (i := 61) (by decide +kernel)))
theorem w_62 : (Jvm.Cond.fieldLinkNest "RayField" (106 : Nat) "RayField$Wall" "ay" "I" "RayField") ∈ lw_tbl := (List.mem_append_right _ (List.mem_of_getElem? (i := 62) (by decide +kernel)))
theorem w_63 : (Jvm.Cond.fieldLink "RayField$Wall" (16 : Nat) "RayField$Wall" "bx" "I") ∈ BIG := big_mem (List.mem_append_right _ (List.mem_of_getElem? (i := 63) (by decide +kernel))) (by decide +kernel)
theorem w_64 : (Jvm.Cond.fieldLinkNest "RayField$Meeting" (24 : Nat) "RayField$Wall" "bx" "I" "RayField") ∈ lw_tbl := (List.mem_append_right _ (List.mem_of_getElem? (i := 64) (by decide +kernel)))
theorem w_65 : (Jvm.Cond.fieldLinkNest "RayField" (109 : Nat) "RayField$Wall" "bx" "I" "RayField") ∈ lw_tbl := (List.mem_append_right _ (List.mem_of_getElem? (i := 65) (by decide +kernel)))
theorem w_66 : (Jvm.Cond.fieldLink "RayField$Wall" (19 : Nat) "RayField$Wall" "by" "I") ∈ BIG := big_mem (List.mem_append_right _ (List.mem_of_getElem? (i := 66) (by decide +kernel))) (by decide +kernel)
theorem w_67 : (Jvm.Cond.fieldLinkNest "RayField$Meeting" (27 : Nat) "RayField$Wall" "by" "I" "RayField") ∈ lw_tbl := (List.mem_append_right _ (List.mem_of_getElem? (i := 67) (by decide +kernel)))
theorem w_68 : (Jvm.Cond.fieldLinkNest "RayField" (112 : Nat) "RayField$Wall" "by" "I" "RayField") ∈ lw_tbl := (List.mem_append_right _ (List.mem_of_getElem? (i := 68) (by decide +kernel)))
theorem w_69 : (Jvm.Cond.lays "RayField$Wall" "RayField$Wall" "ax" "I") ∈ BIG := big_mem (List.mem_append_right _ (List.mem_of_getElem? (i := 69) (by decide +kernel))) (by decide +kernel)
theorem w_71 : (Jvm.Cond.lays "RayField$Wall" "RayField$Wall" "ay" "I") ∈ BIG := big_mem (List.mem_append_right _ (List.mem_of_getElem? (i := 71) (by decide +kernel))) (by decide +kernel)
theorem w_73 : (Jvm.Cond.lays "RayField$Wall" "RayField$Wall" "bx" "I") ∈ BIG := big_mem (List.mem_append_right _ (List.mem_of_getElem? (i := 73) (by decide +kernel))) (by decide +kernel)
theorem w_75 : (Jvm.Cond.lays "RayField$Wall" "RayField$Wall" "by" "I") ∈ BIG := big_mem (List.mem_append_right _ (List.mem_of_getElem? (i := 75) (by decide +kernel))) (by decide +kernel)
theorem w_78 : (Jvm.Cond.methodLink "RayField" (36 : Nat) ({ cls := "RayField", name := "clashes", desc := "(LRayField$Wall;)Z" } : Jvm.MethodName)) ∈ BIG := big_mem (List.mem_append_right _ (List.mem_of_getElem? (i := 78) (by decide +kernel))) (by decide +kernel)
theorem w_80 : (Jvm.Cond.instanceMethod ({ cls := "RayField", name := "clashes", desc := "(LRayField$Wall;)Z" } : Jvm.MethodName)) ∈ BIG := big_mem (List.mem_append_right _ (List.mem_of_getElem? (i := 80) (by decide +kernel))) (by decide +kernel)
theorem w_81 : (Jvm.Cond.code ({ cls := "RayField", name := "clashes", desc := "(LRayField$Wall;)Z" } : Jvm.MethodName) prog_1_method_18_code (4 : Nat) (Option.some Jvm.ClassFile.FieldType.boolean)) ∈ BIG := big_mem (List.mem_append_right _ (List.mem_of_getElem? (i := 81) (by decide +kernel))) (by decide +kernel)
theorem w_82 : (Jvm.Cond.methodLink "RayField" (115 : Nat) ({ cls := "RayField$Wall", name := "clashesWith", desc := "(LRayField$Wall;)Z" } : Jvm.MethodName)) ∈ BIG := big_mem (List.mem_append_right _ (List.mem_of_getElem? (i := 82) (by decide +kernel))) (by decide +kernel)
theorem w_83 : (Jvm.Cond.instanceMethod ({ cls := "RayField$Wall", name := "clashesWith", desc := "(LRayField$Wall;)Z" } : Jvm.MethodName)) ∈ BIG := big_mem (List.mem_append_right _ (List.mem_of_getElem? (i := 83) (by decide +kernel))) (by decide +kernel)
theorem w_84 : (Jvm.Cond.selects "RayField$Wall" ({ cls := "RayField$Wall", name := "clashesWith", desc := "(LRayField$Wall;)Z" } : Jvm.MethodName) ({ cls := "RayField$Wall", name := "clashesWith", desc := "(LRayField$Wall;)Z" } : Jvm.MethodName)) ∈ BIG := big_mem (List.mem_append_right _ (List.mem_of_getElem? (i := 84) (by decide +kernel))) (by decide +kernel)
theorem w_85 : (Jvm.Cond.code ({ cls := "RayField$Wall", name := "clashesWith", desc := "(LRayField$Wall;)Z" } : Jvm.MethodName) prog_4_method_5_code (6 : Nat) (Option.some Jvm.ClassFile.FieldType.boolean)) ∈ BIG := big_mem (List.mem_append_right _ (List.mem_of_getElem? (i := 85) (by decide +kernel))) (by decide +kernel)
theorem w_86 : (Jvm.Cond.methodLink "RayField$Wall" (28 : Nat) ({ cls := "RayField$Wall", name := "side", desc := "(II)J" } : Jvm.MethodName)) ∈ BIG := big_mem (List.mem_append_right _ (List.mem_of_getElem? (i := 86) (by decide +kernel))) (by decide +kernel)
theorem w_87 : (Jvm.Cond.instanceMethod ({ cls := "RayField$Wall", name := "side", desc := "(II)J" } : Jvm.MethodName)) ∈ BIG := big_mem (List.mem_append_right _ (List.mem_of_getElem? (i := 87) (by decide +kernel))) (by decide +kernel)
theorem w_88 : (Jvm.Cond.selects "RayField$Wall" ({ cls := "RayField$Wall", name := "side", desc := "(II)J" } : Jvm.MethodName) ({ cls := "RayField$Wall", name := "side", desc := "(II)J" } : Jvm.MethodName)) ∈ BIG := big_mem (List.mem_append_right _ (List.mem_of_getElem? (i := 88) (by decide +kernel))) (by decide +kernel)
theorem w_89 : (Jvm.Cond.code ({ cls := "RayField$Wall", name := "side", desc := "(II)J" } : Jvm.MethodName) prog_4_method_3_code (3 : Nat) (Option.some Jvm.ClassFile.FieldType.long)) ∈ BIG := big_mem (List.mem_append_right _ (List.mem_of_getElem? (i := 89) (by decide +kernel))) (by decide +kernel)
theorem w_90 : (Jvm.Cond.methodLinkNest "RayField$Wall" (22 : Nat) ({ cls := "RayField", name := "cross", desc := "(JJJJ)J" } : Jvm.MethodName) "RayField") ∈ lw_tbl := (List.mem_append_right _ (List.mem_of_getElem? (i := 90) (by decide +kernel)))
theorem w_91 : (Jvm.Cond.static ({ cls := "RayField", name := "cross", desc := "(JJJJ)J" } : Jvm.MethodName)) ∈ BIG := big_mem (List.mem_append_right _ (List.mem_of_getElem? (i := 91) (by decide +kernel))) (by decide +kernel)
theorem w_92 : (Jvm.Cond.code ({ cls := "RayField", name := "cross", desc := "(JJJJ)J" } : Jvm.MethodName) prog_1_method_26_code (8 : Nat) (Option.some Jvm.ClassFile.FieldType.long)) ∈ BIG := big_mem (List.mem_append_right _ (List.mem_of_getElem? (i := 92) (by decide +kernel))) (by decide +kernel)
theorem w_93 : (Jvm.Cond.methodLink "RayField$Wall" (45 : Nat) ({ cls := "RayField$Wall", name := "overlapsOnItsLine", desc := "(LRayField$Wall;)Z" } : Jvm.MethodName)) ∈ BIG := big_mem (List.mem_append_right _ (List.mem_of_getElem? (i := 93) (by decide +kernel))) (by decide +kernel)
theorem w_95 : (Jvm.Cond.instanceMethod ({ cls := "RayField$Wall", name := "overlapsOnItsLine", desc := "(LRayField$Wall;)Z" } : Jvm.MethodName)) ∈ BIG := big_mem (List.mem_append_right _ (List.mem_of_getElem? (i := 95) (by decide +kernel))) (by decide +kernel)
theorem w_96 : (Jvm.Cond.code ({ cls := "RayField$Wall", name := "overlapsOnItsLine", desc := "(LRayField$Wall;)Z" } : Jvm.MethodName) prog_4_method_6_code (2 : Nat) (Option.some Jvm.ClassFile.FieldType.boolean)) ∈ BIG := big_mem (List.mem_append_right _ (List.mem_of_getElem? (i := 96) (by decide +kernel))) (by decide +kernel)
theorem w_97 : (Jvm.Cond.methodLink "RayField$Wall" (52 : Nat) ({ cls := "RayField$Wall", name := "commonLength", desc := "(IIII)I" } : Jvm.MethodName)) ∈ BIG := big_mem (List.mem_append_right _ (List.mem_of_getElem? (i := 97) (by decide +kernel))) (by decide +kernel)
theorem w_98 : (Jvm.Cond.static ({ cls := "RayField$Wall", name := "commonLength", desc := "(IIII)I" } : Jvm.MethodName)) ∈ BIG := big_mem (List.mem_append_right _ (List.mem_of_getElem? (i := 98) (by decide +kernel))) (by decide +kernel)
theorem w_99 : (Jvm.Cond.code ({ cls := "RayField$Wall", name := "commonLength", desc := "(IIII)I" } : Jvm.MethodName) prog_4_method_9_code (6 : Nat) (Option.some Jvm.ClassFile.FieldType.int)) ∈ BIG := big_mem (List.mem_append_right _ (List.mem_of_getElem? (i := 99) (by decide +kernel))) (by decide +kernel)
theorem w_100 : (Jvm.Cond.methodLink "RayField$Wall" (32 : Nat) ({ cls := "java/lang/Math", name := "min", desc := "(II)I" } : Jvm.MethodName)) ∈ BIG := big_mem (List.mem_append_right _ (List.mem_of_getElem? (i := 100) (by decide +kernel))) (by decide +kernel)
theorem w_101 : (Jvm.Cond.static ({ cls := "java/lang/Math", name := "min", desc := "(II)I" } : Jvm.MethodName)) ∈ BIG := big_mem (List.mem_append_right _ (List.mem_of_getElem? (i := 101) (by decide +kernel))) (by decide +kernel)
theorem w_102 : (Jvm.Cond.code ({ cls := "java/lang/Math", name := "min", desc := "(II)I" } : Jvm.MethodName) prog_7_method_69_code (2 : Nat) (Option.some Jvm.ClassFile.FieldType.int)) ∈ BIG := big_mem (List.mem_append_right _ (List.mem_of_getElem? (i := 102) (by decide +kernel))) (by decide +kernel)
theorem w_103 : (Jvm.Cond.methodLink "RayField$Wall" (38 : Nat) ({ cls := "java/lang/Math", name := "max", desc := "(II)I" } : Jvm.MethodName)) ∈ BIG := big_mem (List.mem_append_right _ (List.mem_of_getElem? (i := 103) (by decide +kernel))) (by decide +kernel)
theorem w_104 : (Jvm.Cond.static ({ cls := "java/lang/Math", name := "max", desc := "(II)I" } : Jvm.MethodName)) ∈ BIG := big_mem (List.mem_append_right _ (List.mem_of_getElem? (i := 104) (by decide +kernel))) (by decide +kernel)
theorem w_105 : (Jvm.Cond.code ({ cls := "java/lang/Math", name := "max", desc := "(II)I" } : Jvm.MethodName) prog_7_method_65_code (2 : Nat) (Option.some Jvm.ClassFile.FieldType.int)) ∈ BIG := big_mem (List.mem_append_right _ (List.mem_of_getElem? (i := 105) (by decide +kernel))) (by decide +kernel)
theorem w_106 : (Jvm.Cond.methodLink "RayField$Wall" (49 : Nat) ({ cls := "RayField$Wall", name := "sharesEndWith", desc := "(LRayField$Wall;)Z" } : Jvm.MethodName)) ∈ BIG := big_mem (List.mem_append_right _ (List.mem_of_getElem? (i := 106) (by decide +kernel))) (by decide +kernel)
theorem w_108 : (Jvm.Cond.instanceMethod ({ cls := "RayField$Wall", name := "sharesEndWith", desc := "(LRayField$Wall;)Z" } : Jvm.MethodName)) ∈ BIG := big_mem (List.mem_append_right _ (List.mem_of_getElem? (i := 108) (by decide +kernel))) (by decide +kernel)
theorem w_109 : (Jvm.Cond.code ({ cls := "RayField$Wall", name := "sharesEndWith", desc := "(LRayField$Wall;)Z" } : Jvm.MethodName) prog_4_method_7_code (2 : Nat) (Option.some Jvm.ClassFile.FieldType.boolean)) ∈ BIG := big_mem (List.mem_append_right _ (List.mem_of_getElem? (i := 109) (by decide +kernel))) (by decide +kernel)
theorem w_110 : (Jvm.Cond.methodLink "RayField$Wall" (56 : Nat) ({ cls := "RayField$Wall", name := "hasEnd", desc := "(II)Z" } : Jvm.MethodName)) ∈ BIG := big_mem (List.mem_append_right _ (List.mem_of_getElem? (i := 110) (by decide +kernel))) (by decide +kernel)
theorem w_112 : (Jvm.Cond.instanceMethod ({ cls := "RayField$Wall", name := "hasEnd", desc := "(II)Z" } : Jvm.MethodName)) ∈ BIG := big_mem (List.mem_append_right _ (List.mem_of_getElem? (i := 112) (by decide +kernel))) (by decide +kernel)
theorem w_113 : (Jvm.Cond.code ({ cls := "RayField$Wall", name := "hasEnd", desc := "(II)Z" } : Jvm.MethodName) prog_4_method_8_code (3 : Nat) (Option.some Jvm.ClassFile.FieldType.boolean)) ∈ BIG := big_mem (List.mem_append_right _ (List.mem_of_getElem? (i := 113) (by decide +kernel))) (by decide +kernel)
theorem w_114 : (Jvm.Cond.methodLink "RayField" (44 : Nat) ({ cls := "RayField", name := "meetAgain", desc := "()V" } : Jvm.MethodName)) ∈ BIG := big_mem (List.mem_append_right _ (List.mem_of_getElem? (i := 114) (by decide +kernel))) (by decide +kernel)
theorem w_116 : (Jvm.Cond.instanceMethod ({ cls := "RayField", name := "meetAgain", desc := "()V" } : Jvm.MethodName)) ∈ BIG := big_mem (List.mem_append_right _ (List.mem_of_getElem? (i := 116) (by decide +kernel))) (by decide +kernel)
theorem w_117 : (Jvm.Cond.code ({ cls := "RayField", name := "meetAgain", desc := "()V" } : Jvm.MethodName) prog_1_method_20_code (4 : Nat) (Option.none : Option Jvm.ClassFile.FieldType)) ∈ BIG := big_mem (List.mem_append_right _ (List.mem_of_getElem? (i := 117) (by decide +kernel))) (by decide +kernel)
theorem w_118 : (Jvm.Cond.methodLink "RayField" (118 : Nat) ({ cls := "RayField", name := "meetOne", desc := "(ILRayField$Wall;LRayField$Ray;)V" } : Jvm.MethodName)) ∈ BIG := big_mem (List.mem_append_right _ (List.mem_of_getElem? (i := 118) (by decide +kernel))) (by decide +kernel)
theorem w_120 : (Jvm.Cond.instanceMethod ({ cls := "RayField", name := "meetOne", desc := "(ILRayField$Wall;LRayField$Ray;)V" } : Jvm.MethodName)) ∈ BIG := big_mem (List.mem_append_right _ (List.mem_of_getElem? (i := 120) (by decide +kernel))) (by decide +kernel)
theorem w_121 : (Jvm.Cond.code ({ cls := "RayField", name := "meetOne", desc := "(ILRayField$Wall;LRayField$Ray;)V" } : Jvm.MethodName) prog_1_method_21_code (5 : Nat) (Option.none : Option Jvm.ClassFile.FieldType)) ∈ BIG := big_mem (List.mem_append_right _ (List.mem_of_getElem? (i := 121) (by decide +kernel))) (by decide +kernel)
theorem w_122 : (Jvm.Cond.instantiable "RayField$Meeting" (5 : Nat)) ∈ BIG := big_mem (List.mem_append_right _ (List.mem_of_getElem? (i := 122) (by decide +kernel))) (by decide +kernel)
theorem w_123 : (Jvm.Cond.methodLinkNest "RayField" (122 : Nat) ({ cls := "RayField$Meeting", name := "<init>", desc := "()V" } : Jvm.MethodName) "RayField") ∈ lw_tbl := (List.mem_append_right _ (List.mem_of_getElem? (i := 123) (by decide +kernel)))
theorem w_124 : (Jvm.Cond.instanceMethod ({ cls := "RayField$Meeting", name := "<init>", desc := "()V" } : Jvm.MethodName)) ∈ BIG := big_mem (List.mem_append_right _ (List.mem_of_getElem? (i := 124) (by decide +kernel))) (by decide +kernel)
theorem w_125 : (Jvm.Cond.code ({ cls := "RayField$Meeting", name := "<init>", desc := "()V" } : Jvm.MethodName) prog_2_method_1_code (1 : Nat) (Option.none : Option Jvm.ClassFile.FieldType)) ∈ BIG := big_mem (List.mem_append_right _ (List.mem_of_getElem? (i := 125) (by decide +kernel))) (by decide +kernel)
theorem w_126 : (Jvm.Cond.methodLink "RayField$Meeting" (3 : Nat) ({ cls := "java/lang/Object", name := "<init>", desc := "()V" } : Jvm.MethodName)) ∈ BIG := big_mem (List.mem_append_right _ (List.mem_of_getElem? (i := 126) (by decide +kernel))) (by decide +kernel)
theorem w_127 : (Jvm.Cond.fieldLink "RayField$Meeting" (37 : Nat) "RayField$Meeting" "number" "I") ∈ BIG := big_mem (List.mem_append_right _ (List.mem_of_getElem? (i := 127) (by decide +kernel))) (by decide +kernel)
theorem w_128 : (Jvm.Cond.fieldLinkNest "RayField" (68 : Nat) "RayField$Meeting" "number" "I" "RayField") ∈ lw_tbl := (List.mem_append_right _ (List.mem_of_getElem? (i := 128) (by decide +kernel)))
theorem w_129 : (Jvm.Cond.fieldLink "RayField$Meeting" (42 : Nat) "RayField$Meeting" "fromRight" "Z") ∈ BIG := big_mem (List.mem_append_right _ (List.mem_of_getElem? (i := 129) (by decide +kernel))) (by decide +kernel)
theorem w_130 : (Jvm.Cond.fieldLinkNest "RayField" (71 : Nat) "RayField$Meeting" "fromRight" "Z" "RayField") ∈ lw_tbl := (List.mem_append_right _ (List.mem_of_getElem? (i := 130) (by decide +kernel)))
theorem w_131 : (Jvm.Cond.fieldLink "RayField$Meeting" (52 : Nat) "RayField$Meeting" "distance" "J") ∈ BIG := big_mem (List.mem_append_right _ (List.mem_of_getElem? (i := 131) (by decide +kernel))) (by decide +kernel)
theorem w_132 : (Jvm.Cond.fieldLinkNest "RayField" (81 : Nat) "RayField$Meeting" "distance" "J" "RayField") ∈ lw_tbl := (List.mem_append_right _ (List.mem_of_getElem? (i := 132) (by decide +kernel)))
theorem w_133 : (Jvm.Cond.fieldLink "RayField$Meeting" (56 : Nat) "RayField$Meeting" "advance" "J") ∈ BIG := big_mem (List.mem_append_right _ (List.mem_of_getElem? (i := 133) (by decide +kernel))) (by decide +kernel)
theorem w_134 : (Jvm.Cond.fieldLinkNest "RayField" (91 : Nat) "RayField$Meeting" "advance" "J" "RayField") ∈ lw_tbl := (List.mem_append_right _ (List.mem_of_getElem? (i := 134) (by decide +kernel)))
theorem w_135 : (Jvm.Cond.fieldLink "RayField$Meeting" (59 : Nat) "RayField$Meeting" "divisor" "J") ∈ BIG := big_mem (List.mem_append_right _ (List.mem_of_getElem? (i := 135) (by decide +kernel))) (by decide +kernel)
theorem w_136 : (Jvm.Cond.lays "RayField$Meeting" "RayField$Meeting" "number" "I") ∈ BIG := big_mem (List.mem_append_right _ (List.mem_of_getElem? (i := 136) (by decide +kernel))) (by decide +kernel)
theorem w_138 : (Jvm.Cond.lays "RayField$Meeting" "RayField$Meeting" "fromRight" "Z") ∈ BIG := big_mem (List.mem_append_right _ (List.mem_of_getElem? (i := 138) (by decide +kernel))) (by decide +kernel)
theorem w_140 : (Jvm.Cond.lays "RayField$Meeting" "RayField$Meeting" "distance" "J") ∈ BIG := big_mem (List.mem_append_right _ (List.mem_of_getElem? (i := 140) (by decide +kernel))) (by decide +kernel)
theorem w_142 : (Jvm.Cond.lays "RayField$Meeting" "RayField$Meeting" "advance" "J") ∈ BIG := big_mem (List.mem_append_right _ (List.mem_of_getElem? (i := 142) (by decide +kernel))) (by decide +kernel)
theorem w_144 : (Jvm.Cond.lays "RayField$Meeting" "RayField$Meeting" "divisor" "J") ∈ BIG := big_mem (List.mem_append_right _ (List.mem_of_getElem? (i := 144) (by decide +kernel))) (by decide +kernel)
theorem w_147 : (Jvm.Cond.methodLink "RayField" (123 : Nat) ({ cls := "RayField$Meeting", name := "fill", desc := "(ILRayField$Wall;LRayField$Ray;)Z" } : Jvm.MethodName)) ∈ BIG := big_mem (List.mem_append_right _ (List.mem_of_getElem? (i := 147) (by decide +kernel))) (by decide +kernel)
theorem w_148 : (Jvm.Cond.instanceMethod ({ cls := "RayField$Meeting", name := "fill", desc := "(ILRayField$Wall;LRayField$Ray;)Z" } : Jvm.MethodName)) ∈ BIG := big_mem (List.mem_append_right _ (List.mem_of_getElem? (i := 148) (by decide +kernel))) (by decide +kernel)
theorem w_149 : (Jvm.Cond.selects "RayField$Meeting" ({ cls := "RayField$Meeting", name := "fill", desc := "(ILRayField$Wall;LRayField$Ray;)Z" } : Jvm.MethodName) ({ cls := "RayField$Meeting", name := "fill", desc := "(ILRayField$Wall;LRayField$Ray;)Z" } : Jvm.MethodName)) ∈ BIG := big_mem (List.mem_append_right _ (List.mem_of_getElem? (i := 149) (by decide +kernel))) (by decide +kernel)
theorem w_150 : (Jvm.Cond.code ({ cls := "RayField$Meeting", name := "fill", desc := "(ILRayField$Wall;LRayField$Ray;)Z" } : Jvm.MethodName) prog_2_method_2_code (12 : Nat) (Option.some Jvm.ClassFile.FieldType.boolean)) ∈ BIG := big_mem (List.mem_append_right _ (List.mem_of_getElem? (i := 150) (by decide +kernel))) (by decide +kernel)
theorem w_151 : (Jvm.Cond.methodLink "RayField$Meeting" (18 : Nat) ({ cls := "RayField$Ray", name := "side", desc := "(II)J" } : Jvm.MethodName)) ∈ BIG := big_mem (List.mem_append_right _ (List.mem_of_getElem? (i := 151) (by decide +kernel))) (by decide +kernel)
theorem w_152 : (Jvm.Cond.instanceMethod ({ cls := "RayField$Ray", name := "side", desc := "(II)J" } : Jvm.MethodName)) ∈ BIG := big_mem (List.mem_append_right _ (List.mem_of_getElem? (i := 152) (by decide +kernel))) (by decide +kernel)
theorem w_153 : (Jvm.Cond.selects "RayField$Ray" ({ cls := "RayField$Ray", name := "side", desc := "(II)J" } : Jvm.MethodName) ({ cls := "RayField$Ray", name := "side", desc := "(II)J" } : Jvm.MethodName)) ∈ BIG := big_mem (List.mem_append_right _ (List.mem_of_getElem? (i := 153) (by decide +kernel))) (by decide +kernel)
theorem w_154 : (Jvm.Cond.code ({ cls := "RayField$Ray", name := "side", desc := "(II)J" } : Jvm.MethodName) prog_3_method_2_code (3 : Nat) (Option.some Jvm.ClassFile.FieldType.long)) ∈ BIG := big_mem (List.mem_append_right _ (List.mem_of_getElem? (i := 154) (by decide +kernel))) (by decide +kernel)
theorem w_155 : (Jvm.Cond.methodLinkNest "RayField$Ray" (22 : Nat) ({ cls := "RayField", name := "cross", desc := "(JJJJ)J" } : Jvm.MethodName) "RayField") ∈ lw_tbl := (List.mem_append_right _ (List.mem_of_getElem? (i := 155) (by decide +kernel)))
theorem w_156 : (Jvm.Cond.methodLink "RayField$Meeting" (36 : Nat) ({ cls := "RayField$Wall", name := "side", desc := "(II)J" } : Jvm.MethodName)) ∈ BIG := big_mem (List.mem_append_right _ (List.mem_of_getElem? (i := 156) (by decide +kernel))) (by decide +kernel)
theorem w_157 : (Jvm.Cond.methodLink "RayField$Meeting" (46 : Nat) ({ cls := "java/lang/Math", name := "abs", desc := "(J)J" } : Jvm.MethodName)) ∈ BIG := big_mem (List.mem_append_right _ (List.mem_of_getElem? (i := 157) (by decide +kernel))) (by decide +kernel)
theorem w_158 : (Jvm.Cond.static ({ cls := "java/lang/Math", name := "abs", desc := "(J)J" } : Jvm.MethodName)) ∈ BIG := big_mem (List.mem_append_right _ (List.mem_of_getElem? (i := 158) (by decide +kernel))) (by decide +kernel)
theorem w_159 : (Jvm.Cond.code ({ cls := "java/lang/Math", name := "abs", desc := "(J)J" } : Jvm.MethodName) prog_7_method_61_code (2 : Nat) (Option.some Jvm.ClassFile.FieldType.long)) ∈ BIG := big_mem (List.mem_append_right _ (List.mem_of_getElem? (i := 159) (by decide +kernel))) (by decide +kernel)
theorem w_160 : (Jvm.Cond.methodLink "RayField" (127 : Nat) ({ cls := "RayField", name := "sortIn", desc := "(LRayField$Meeting;)V" } : Jvm.MethodName)) ∈ BIG := big_mem (List.mem_append_right _ (List.mem_of_getElem? (i := 160) (by decide +kernel))) (by decide +kernel)
theorem w_162 : (Jvm.Cond.instanceMethod ({ cls := "RayField", name := "sortIn", desc := "(LRayField$Meeting;)V" } : Jvm.MethodName)) ∈ BIG := big_mem (List.mem_append_right _ (List.mem_of_getElem? (i := 162) (by decide +kernel))) (by decide +kernel)
theorem w_163 : (Jvm.Cond.code ({ cls := "RayField", name := "sortIn", desc := "(LRayField$Meeting;)V" } : Jvm.MethodName) prog_1_method_22_code (4 : Nat) (Option.none : Option Jvm.ClassFile.FieldType)) ∈ BIG := big_mem (List.mem_append_right _ (List.mem_of_getElem? (i := 163) (by decide +kernel))) (by decide +kernel)
theorem w_164 : (Jvm.Cond.methodLink "RayField" (131 : Nat) ({ cls := "RayField$Meeting", name := "isNearerThan", desc := "(LRayField$Meeting;)Z" } : Jvm.MethodName)) ∈ BIG := big_mem (List.mem_append_right _ (List.mem_of_getElem? (i := 164) (by decide +kernel))) (by decide +kernel)
theorem w_165 : (Jvm.Cond.instanceMethod ({ cls := "RayField$Meeting", name := "isNearerThan", desc := "(LRayField$Meeting;)Z" } : Jvm.MethodName)) ∈ BIG := big_mem (List.mem_append_right _ (List.mem_of_getElem? (i := 165) (by decide +kernel))) (by decide +kernel)
theorem w_166 : (Jvm.Cond.selects "RayField$Meeting" ({ cls := "RayField$Meeting", name := "isNearerThan", desc := "(LRayField$Meeting;)Z" } : Jvm.MethodName) ({ cls := "RayField$Meeting", name := "isNearerThan", desc := "(LRayField$Meeting;)Z" } : Jvm.MethodName)) ∈ BIG := big_mem (List.mem_append_right _ (List.mem_of_getElem? (i := 166) (by decide +kernel))) (by decide +kernel)
theorem w_167 : (Jvm.Cond.code ({ cls := "RayField$Meeting", name := "isNearerThan", desc := "(LRayField$Meeting;)Z" } : Jvm.MethodName) prog_2_method_3_code (2 : Nat) (Option.some Jvm.ClassFile.FieldType.boolean)) ∈ BIG := big_mem (List.mem_append_right _ (List.mem_of_getElem? (i := 167) (by decide +kernel))) (by decide +kernel)
theorem w_168 : (Jvm.Cond.methodLink "RayFieldLaw" (18 : Nat) ({ cls := "RayField", name := "take", desc := "(I)Z" } : Jvm.MethodName)) ∈ BIG := big_mem (List.mem_append_right _ (List.mem_of_getElem? (i := 168) (by decide +kernel))) (by decide +kernel)
theorem w_169 : (Jvm.Cond.instanceMethod ({ cls := "RayField", name := "take", desc := "(I)Z" } : Jvm.MethodName)) ∈ BIG := big_mem (List.mem_append_right _ (List.mem_of_getElem? (i := 169) (by decide +kernel))) (by decide +kernel)
theorem w_170 : (Jvm.Cond.selects "RayField" ({ cls := "RayField", name := "take", desc := "(I)Z" } : Jvm.MethodName) ({ cls := "RayField", name := "take", desc := "(I)Z" } : Jvm.MethodName)) ∈ BIG := big_mem (List.mem_append_right _ (List.mem_of_getElem? (i := 170) (by decide +kernel))) (by decide +kernel)
theorem w_171 : (Jvm.Cond.code ({ cls := "RayField", name := "take", desc := "(I)Z" } : Jvm.MethodName) prog_1_method_3_code (2 : Nat) (Option.some Jvm.ClassFile.FieldType.boolean)) ∈ BIG := big_mem (List.mem_append_right _ (List.mem_of_getElem? (i := 171) (by decide +kernel))) (by decide +kernel)
theorem w_172 : (Jvm.Cond.methodLink "RayField" (47 : Nat) ({ cls := "RayField", name := "wallNumbered", desc := "(I)LRayField$Wall;" } : Jvm.MethodName)) ∈ BIG := big_mem (List.mem_append_right _ (List.mem_of_getElem? (i := 172) (by decide +kernel))) (by decide +kernel)
theorem w_174 : (Jvm.Cond.instanceMethod ({ cls := "RayField", name := "wallNumbered", desc := "(I)LRayField$Wall;" } : Jvm.MethodName)) ∈ BIG := big_mem (List.mem_append_right _ (List.mem_of_getElem? (i := 174) (by decide +kernel))) (by decide +kernel)
theorem w_175 : (Jvm.Cond.code ({ cls := "RayField", name := "wallNumbered", desc := "(I)LRayField$Wall;" } : Jvm.MethodName) prog_1_method_17_code (2 : Nat) (Option.some (Jvm.ClassFile.FieldType.object "RayField$Wall"))) ∈ BIG := big_mem (List.mem_append_right _ (List.mem_of_getElem? (i := 175) (by decide +kernel))) (by decide +kernel)
theorem w_176 : (Jvm.Cond.methodLink "RayFieldLaw" (23 : Nat) ({ cls := "RayField", name := "turn", desc := "(I)Z" } : Jvm.MethodName)) ∈ BIG := big_mem (List.mem_append_right _ (List.mem_of_getElem? (i := 176) (by decide +kernel))) (by decide +kernel)
theorem w_177 : (Jvm.Cond.instanceMethod ({ cls := "RayField", name := "turn", desc := "(I)Z" } : Jvm.MethodName)) ∈ BIG := big_mem (List.mem_append_right _ (List.mem_of_getElem? (i := 177) (by decide +kernel))) (by decide +kernel)
theorem w_178 : (Jvm.Cond.selects "RayField" ({ cls := "RayField", name := "turn", desc := "(I)Z" } : Jvm.MethodName) ({ cls := "RayField", name := "turn", desc := "(I)Z" } : Jvm.MethodName)) ∈ BIG := big_mem (List.mem_append_right _ (List.mem_of_getElem? (i := 178) (by decide +kernel))) (by decide +kernel)
theorem w_179 : (Jvm.Cond.code ({ cls := "RayField", name := "turn", desc := "(I)Z" } : Jvm.MethodName) prog_1_method_4_code (3 : Nat) (Option.some Jvm.ClassFile.FieldType.boolean)) ∈ BIG := big_mem (List.mem_append_right _ (List.mem_of_getElem? (i := 179) (by decide +kernel))) (by decide +kernel)
theorem w_180 : (Jvm.Cond.methodLink "RayField" (51 : Nat) ({ cls := "RayField$Wall", name := "exchangeEnds", desc := "()V" } : Jvm.MethodName)) ∈ BIG := big_mem (List.mem_append_right _ (List.mem_of_getElem? (i := 180) (by decide +kernel))) (by decide +kernel)
theorem w_181 : (Jvm.Cond.instanceMethod ({ cls := "RayField$Wall", name := "exchangeEnds", desc := "()V" } : Jvm.MethodName)) ∈ BIG := big_mem (List.mem_append_right _ (List.mem_of_getElem? (i := 181) (by decide +kernel))) (by decide +kernel)
theorem w_182 : (Jvm.Cond.selects "RayField$Wall" ({ cls := "RayField$Wall", name := "exchangeEnds", desc := "()V" } : Jvm.MethodName) ({ cls := "RayField$Wall", name := "exchangeEnds", desc := "()V" } : Jvm.MethodName)) ∈ BIG := big_mem (List.mem_append_right _ (List.mem_of_getElem? (i := 182) (by decide +kernel))) (by decide +kernel)
theorem w_183 : (Jvm.Cond.code ({ cls := "RayField$Wall", name := "exchangeEnds", desc := "()V" } : Jvm.MethodName) prog_4_method_2_code (3 : Nat) (Option.none : Option Jvm.ClassFile.FieldType)) ∈ BIG := big_mem (List.mem_append_right _ (List.mem_of_getElem? (i := 183) (by decide +kernel))) (by decide +kernel)
theorem w_184 : (Jvm.Cond.methodLink "RayFieldLaw" (27 : Nat) ({ cls := "RayField", name := "clear", desc := "()V" } : Jvm.MethodName)) ∈ BIG := big_mem (List.mem_append_right _ (List.mem_of_getElem? (i := 184) (by decide +kernel))) (by decide +kernel)
theorem w_185 : (Jvm.Cond.instanceMethod ({ cls := "RayField", name := "clear", desc := "()V" } : Jvm.MethodName)) ∈ BIG := big_mem (List.mem_append_right _ (List.mem_of_getElem? (i := 185) (by decide +kernel))) (by decide +kernel)
theorem w_186 : (Jvm.Cond.selects "RayField" ({ cls := "RayField", name := "clear", desc := "()V" } : Jvm.MethodName) ({ cls := "RayField", name := "clear", desc := "()V" } : Jvm.MethodName)) ∈ BIG := big_mem (List.mem_append_right _ (List.mem_of_getElem? (i := 186) (by decide +kernel))) (by decide +kernel)
theorem w_187 : (Jvm.Cond.code ({ cls := "RayField", name := "clear", desc := "()V" } : Jvm.MethodName) prog_1_method_5_code (2 : Nat) (Option.none : Option Jvm.ClassFile.FieldType)) ∈ BIG := big_mem (List.mem_append_right _ (List.mem_of_getElem? (i := 187) (by decide +kernel))) (by decide +kernel)
theorem w_188 : (Jvm.Cond.methodLink "RayFieldLaw" (31 : Nat) ({ cls := "RayField", name := "ray", desc := "(IIII)Z" } : Jvm.MethodName)) ∈ BIG := big_mem (List.mem_append_right _ (List.mem_of_getElem? (i := 188) (by decide +kernel))) (by decide +kernel)
theorem w_189 : (Jvm.Cond.instanceMethod ({ cls := "RayField", name := "ray", desc := "(IIII)Z" } : Jvm.MethodName)) ∈ BIG := big_mem (List.mem_append_right _ (List.mem_of_getElem? (i := 189) (by decide +kernel))) (by decide +kernel)
theorem w_190 : (Jvm.Cond.selects "RayField" ({ cls := "RayField", name := "ray", desc := "(IIII)Z" } : Jvm.MethodName) ({ cls := "RayField", name := "ray", desc := "(IIII)Z" } : Jvm.MethodName)) ∈ BIG := big_mem (List.mem_append_right _ (List.mem_of_getElem? (i := 190) (by decide +kernel))) (by decide +kernel)
theorem w_191 : (Jvm.Cond.code ({ cls := "RayField", name := "ray", desc := "(IIII)Z" } : Jvm.MethodName) prog_1_method_6_code (5 : Nat) (Option.some Jvm.ClassFile.FieldType.boolean)) ∈ BIG := big_mem (List.mem_append_right _ (List.mem_of_getElem? (i := 191) (by decide +kernel))) (by decide +kernel)
theorem w_192 : (Jvm.Cond.classLink "RayField" (54 : Nat) "RayField$Ray") ∈ BIG := big_mem (List.mem_append_right _ (List.mem_of_getElem? (i := 192) (by decide +kernel))) (by decide +kernel)
theorem w_193 : (Jvm.Cond.instantiable "RayField$Ray" (4 : Nat)) ∈ BIG := big_mem (List.mem_append_right _ (List.mem_of_getElem? (i := 193) (by decide +kernel))) (by decide +kernel)
theorem w_194 : (Jvm.Cond.methodLink "RayField" (56 : Nat) ({ cls := "RayField$Ray", name := "<init>", desc := "(IIII)V" } : Jvm.MethodName)) ∈ BIG := big_mem (List.mem_append_right _ (List.mem_of_getElem? (i := 194) (by decide +kernel))) (by decide +kernel)
theorem w_195 : (Jvm.Cond.instanceMethod ({ cls := "RayField$Ray", name := "<init>", desc := "(IIII)V" } : Jvm.MethodName)) ∈ BIG := big_mem (List.mem_append_right _ (List.mem_of_getElem? (i := 195) (by decide +kernel))) (by decide +kernel)
theorem w_196 : (Jvm.Cond.code ({ cls := "RayField$Ray", name := "<init>", desc := "(IIII)V" } : Jvm.MethodName) prog_3_method_1_code (5 : Nat) (Option.none : Option Jvm.ClassFile.FieldType)) ∈ BIG := big_mem (List.mem_append_right _ (List.mem_of_getElem? (i := 196) (by decide +kernel))) (by decide +kernel)
theorem w_197 : (Jvm.Cond.methodLink "RayField$Ray" (1 : Nat) ({ cls := "java/lang/Object", name := "<init>", desc := "()V" } : Jvm.MethodName)) ∈ BIG := big_mem (List.mem_append_right _ (List.mem_of_getElem? (i := 197) (by decide +kernel))) (by decide +kernel)
theorem w_198 : (Jvm.Cond.fieldLink "RayField$Ray" (7 : Nat) "RayField$Ray" "ex" "I") ∈ BIG := big_mem (List.mem_append_right _ (List.mem_of_getElem? (i := 198) (by decide +kernel))) (by decide +kernel)
theorem w_199 : (Jvm.Cond.fieldLinkNest "RayField$Meeting" (30 : Nat) "RayField$Ray" "ex" "I" "RayField") ∈ lw_tbl := (List.mem_append_right _ (List.mem_of_getElem? (i := 199) (by decide +kernel)))
theorem w_200 : (Jvm.Cond.fieldLink "RayField$Ray" (13 : Nat) "RayField$Ray" "ey" "I") ∈ BIG := big_mem (List.mem_append_right _ (List.mem_of_getElem? (i := 200) (by decide +kernel))) (by decide +kernel)
theorem w_201 : (Jvm.Cond.fieldLinkNest "RayField$Meeting" (33 : Nat) "RayField$Ray" "ey" "I" "RayField") ∈ lw_tbl := (List.mem_append_right _ (List.mem_of_getElem? (i := 201) (by decide +kernel)))
theorem w_202 : (Jvm.Cond.fieldLink "RayField$Ray" (16 : Nat) "RayField$Ray" "dx" "I") ∈ BIG := big_mem (List.mem_append_right _ (List.mem_of_getElem? (i := 202) (by decide +kernel))) (by decide +kernel)
theorem w_203 : (Jvm.Cond.fieldLink "RayField$Ray" (19 : Nat) "RayField$Ray" "dy" "I") ∈ BIG := big_mem (List.mem_append_right _ (List.mem_of_getElem? (i := 203) (by decide +kernel))) (by decide +kernel)
theorem w_204 : (Jvm.Cond.laysFinal "RayField$Ray" "RayField$Ray" "ex" "I") ∈ BIG := big_mem (List.mem_append_right _ (List.mem_of_getElem? (i := 204) (by decide +kernel))) (by decide +kernel)
theorem w_206 : (Jvm.Cond.laysFinal "RayField$Ray" "RayField$Ray" "ey" "I") ∈ BIG := big_mem (List.mem_append_right _ (List.mem_of_getElem? (i := 206) (by decide +kernel))) (by decide +kernel)
theorem w_208 : (Jvm.Cond.laysFinal "RayField$Ray" "RayField$Ray" "dx" "I") ∈ BIG := big_mem (List.mem_append_right _ (List.mem_of_getElem? (i := 208) (by decide +kernel))) (by decide +kernel)
theorem w_210 : (Jvm.Cond.laysFinal "RayField$Ray" "RayField$Ray" "dy" "I") ∈ BIG := big_mem (List.mem_append_right _ (List.mem_of_getElem? (i := 210) (by decide +kernel))) (by decide +kernel)
theorem w_213 : (Jvm.Cond.methodLink "RayFieldLaw" (36 : Nat) ({ cls := "RayField", name := "met", desc := "()I" } : Jvm.MethodName)) ∈ BIG := big_mem (List.mem_append_right _ (List.mem_of_getElem? (i := 213) (by decide +kernel))) (by decide +kernel)
theorem w_214 : (Jvm.Cond.instanceMethod ({ cls := "RayField", name := "met", desc := "()I" } : Jvm.MethodName)) ∈ BIG := big_mem (List.mem_append_right _ (List.mem_of_getElem? (i := 214) (by decide +kernel))) (by decide +kernel)
theorem w_215 : (Jvm.Cond.selects "RayField" ({ cls := "RayField", name := "met", desc := "()I" } : Jvm.MethodName) ({ cls := "RayField", name := "met", desc := "()I" } : Jvm.MethodName)) ∈ BIG := big_mem (List.mem_append_right _ (List.mem_of_getElem? (i := 215) (by decide +kernel))) (by decide +kernel)
theorem w_216 : (Jvm.Cond.code ({ cls := "RayField", name := "met", desc := "()I" } : Jvm.MethodName) prog_1_method_7_code (1 : Nat) (Option.some Jvm.ClassFile.FieldType.int)) ∈ BIG := big_mem (List.mem_append_right _ (List.mem_of_getElem? (i := 216) (by decide +kernel))) (by decide +kernel)
theorem w_217 : (Jvm.Cond.methodLink "RayFieldLaw" (41 : Nat) ({ cls := "RayField", name := "wall", desc := "(I)I" } : Jvm.MethodName)) ∈ BIG := big_mem (List.mem_append_right _ (List.mem_of_getElem? (i := 217) (by decide +kernel))) (by decide +kernel)
theorem w_218 : (Jvm.Cond.instanceMethod ({ cls := "RayField", name := "wall", desc := "(I)I" } : Jvm.MethodName)) ∈ BIG := big_mem (List.mem_append_right _ (List.mem_of_getElem? (i := 218) (by decide +kernel))) (by decide +kernel)
theorem w_219 : (Jvm.Cond.selects "RayField" ({ cls := "RayField", name := "wall", desc := "(I)I" } : Jvm.MethodName) ({ cls := "RayField", name := "wall", desc := "(I)I" } : Jvm.MethodName)) ∈ BIG := big_mem (List.mem_append_right _ (List.mem_of_getElem? (i := 219) (by decide +kernel))) (by decide +kernel)
theorem w_220 : (Jvm.Cond.code ({ cls := "RayField", name := "wall", desc := "(I)I" } : Jvm.MethodName) prog_1_method_8_code (3 : Nat) (Option.some Jvm.ClassFile.FieldType.int)) ∈ BIG := big_mem (List.mem_append_right _ (List.mem_of_getElem? (i := 220) (by decide +kernel))) (by decide +kernel)
theorem w_221 : (Jvm.Cond.methodLink "RayField" (64 : Nat) ({ cls := "RayField", name := "meetingAt", desc := "(I)LRayField$Meeting;" } : Jvm.MethodName)) ∈ BIG := big_mem (List.mem_append_right _ (List.mem_of_getElem? (i := 221) (by decide +kernel))) (by decide +kernel)
theorem w_223 : (Jvm.Cond.instanceMethod ({ cls := "RayField", name := "meetingAt", desc := "(I)LRayField$Meeting;" } : Jvm.MethodName)) ∈ BIG := big_mem (List.mem_append_right _ (List.mem_of_getElem? (i := 223) (by decide +kernel))) (by decide +kernel)
theorem w_224 : (Jvm.Cond.code ({ cls := "RayField", name := "meetingAt", desc := "(I)LRayField$Meeting;" } : Jvm.MethodName) prog_1_method_19_code (2 : Nat) (Option.some (Jvm.ClassFile.FieldType.object "RayField$Meeting"))) ∈ BIG := big_mem (List.mem_append_right _ (List.mem_of_getElem? (i := 224) (by decide +kernel))) (by decide +kernel)
theorem w_225 : (Jvm.Cond.methodLink "RayFieldLaw" (46 : Nat) ({ cls := "RayField", name := "isRight", desc := "(I)Z" } : Jvm.MethodName)) ∈ BIG := big_mem (List.mem_append_right _ (List.mem_of_getElem? (i := 225) (by decide +kernel))) (by decide +kernel)
theorem w_226 : (Jvm.Cond.instanceMethod ({ cls := "RayField", name := "isRight", desc := "(I)Z" } : Jvm.MethodName)) ∈ BIG := big_mem (List.mem_append_right _ (List.mem_of_getElem? (i := 226) (by decide +kernel))) (by decide +kernel)
theorem w_227 : (Jvm.Cond.selects "RayField" ({ cls := "RayField", name := "isRight", desc := "(I)Z" } : Jvm.MethodName) ({ cls := "RayField", name := "isRight", desc := "(I)Z" } : Jvm.MethodName)) ∈ BIG := big_mem (List.mem_append_right _ (List.mem_of_getElem? (i := 227) (by decide +kernel))) (by decide +kernel)
theorem w_228 : (Jvm.Cond.code ({ cls := "RayField", name := "isRight", desc := "(I)Z" } : Jvm.MethodName) prog_1_method_9_code (3 : Nat) (Option.some Jvm.ClassFile.FieldType.boolean)) ∈ BIG := big_mem (List.mem_append_right _ (List.mem_of_getElem? (i := 228) (by decide +kernel))) (by decide +kernel)
theorem w_229 : (Jvm.Cond.methodLink "RayFieldLaw" (50 : Nat) ({ cls := "RayField", name := "times", desc := "(II)J" } : Jvm.MethodName)) ∈ BIG := big_mem (List.mem_append_right _ (List.mem_of_getElem? (i := 229) (by decide +kernel))) (by decide +kernel)
theorem w_230 : (Jvm.Cond.instanceMethod ({ cls := "RayField", name := "times", desc := "(II)J" } : Jvm.MethodName)) ∈ BIG := big_mem (List.mem_append_right _ (List.mem_of_getElem? (i := 230) (by decide +kernel))) (by decide +kernel)
theorem w_231 : (Jvm.Cond.selects "RayField" ({ cls := "RayField", name := "times", desc := "(II)J" } : Jvm.MethodName) ({ cls := "RayField", name := "times", desc := "(II)J" } : Jvm.MethodName)) ∈ BIG := big_mem (List.mem_append_right _ (List.mem_of_getElem? (i := 231) (by decide +kernel))) (by decide +kernel)
theorem w_232 : (Jvm.Cond.code ({ cls := "RayField", name := "times", desc := "(II)J" } : Jvm.MethodName) prog_1_method_10_code (4 : Nat) (Option.some Jvm.ClassFile.FieldType.long)) ∈ BIG := big_mem (List.mem_append_right _ (List.mem_of_getElem? (i := 232) (by decide +kernel))) (by decide +kernel)
theorem w_233 : (Jvm.Cond.constant "RayField" (75 : Nat) (1000000 : Int32)) ∈ BIG := big_mem (List.mem_append_right _ (List.mem_of_getElem? (i := 233) (by decide +kernel))) (by decide +kernel)
theorem w_234 : (Jvm.Cond.constantLong "RayField" (79 : Nat) (-1 : Int64)) ∈ BIG := big_mem (List.mem_append_right _ (List.mem_of_getElem? (i := 234) (by decide +kernel))) (by decide +kernel)
theorem w_235 : (Jvm.Cond.methodLink "RayField" (85 : Nat) ({ cls := "RayField$Meeting", name := "roundedDown", desc := "(J)J" } : Jvm.MethodName)) ∈ BIG := big_mem (List.mem_append_right _ (List.mem_of_getElem? (i := 235) (by decide +kernel))) (by decide +kernel)
theorem w_236 : (Jvm.Cond.instanceMethod ({ cls := "RayField$Meeting", name := "roundedDown", desc := "(J)J" } : Jvm.MethodName)) ∈ BIG := big_mem (List.mem_append_right _ (List.mem_of_getElem? (i := 236) (by decide +kernel))) (by decide +kernel)
theorem w_237 : (Jvm.Cond.selects "RayField$Meeting" ({ cls := "RayField$Meeting", name := "roundedDown", desc := "(J)J" } : Jvm.MethodName) ({ cls := "RayField$Meeting", name := "roundedDown", desc := "(J)J" } : Jvm.MethodName)) ∈ BIG := big_mem (List.mem_append_right _ (List.mem_of_getElem? (i := 237) (by decide +kernel))) (by decide +kernel)
theorem w_238 : (Jvm.Cond.code ({ cls := "RayField$Meeting", name := "roundedDown", desc := "(J)J" } : Jvm.MethodName) prog_2_method_5_code (3 : Nat) (Option.some Jvm.ClassFile.FieldType.long)) ∈ BIG := big_mem (List.mem_append_right _ (List.mem_of_getElem? (i := 238) (by decide +kernel))) (by decide +kernel)
theorem w_239 : (Jvm.Cond.methodLink "RayField$Meeting" (62 : Nat) ({ cls := "java/lang/Math", name := "floorDiv", desc := "(JJ)J" } : Jvm.MethodName)) ∈ BIG := big_mem (List.mem_append_right _ (List.mem_of_getElem? (i := 239) (by decide +kernel))) (by decide +kernel)
theorem w_240 : (Jvm.Cond.static ({ cls := "java/lang/Math", name := "floorDiv", desc := "(JJ)J" } : Jvm.MethodName)) ∈ BIG := big_mem (List.mem_append_right _ (List.mem_of_getElem? (i := 240) (by decide +kernel))) (by decide +kernel)
theorem w_241 : (Jvm.Cond.code ({ cls := "java/lang/Math", name := "floorDiv", desc := "(JJ)J" } : Jvm.MethodName) prog_7_method_49_code (6 : Nat) (Option.some Jvm.ClassFile.FieldType.long)) ∈ BIG := big_mem (List.mem_append_right _ (List.mem_of_getElem? (i := 241) (by decide +kernel))) (by decide +kernel)
theorem w_242 : (Jvm.Cond.constantLong "RayField$Meeting" (66 : Nat) (-1 : Int64)) ∈ BIG := big_mem (List.mem_append_right _ (List.mem_of_getElem? (i := 242) (by decide +kernel))) (by decide +kernel)
theorem w_243 : (Jvm.Cond.methodLink "RayFieldLaw" (55 : Nat) ({ cls := "RayField", name := "along", desc := "(I)I" } : Jvm.MethodName)) ∈ BIG := big_mem (List.mem_append_right _ (List.mem_of_getElem? (i := 243) (by decide +kernel))) (by decide +kernel)
theorem w_244 : (Jvm.Cond.instanceMethod ({ cls := "RayField", name := "along", desc := "(I)I" } : Jvm.MethodName)) ∈ BIG := big_mem (List.mem_append_right _ (List.mem_of_getElem? (i := 244) (by decide +kernel))) (by decide +kernel)
theorem w_245 : (Jvm.Cond.selects "RayField" ({ cls := "RayField", name := "along", desc := "(I)I" } : Jvm.MethodName) ({ cls := "RayField", name := "along", desc := "(I)I" } : Jvm.MethodName)) ∈ BIG := big_mem (List.mem_append_right _ (List.mem_of_getElem? (i := 245) (by decide +kernel))) (by decide +kernel)
theorem w_246 : (Jvm.Cond.code ({ cls := "RayField", name := "along", desc := "(I)I" } : Jvm.MethodName) prog_1_method_11_code (3 : Nat) (Option.some Jvm.ClassFile.FieldType.int)) ∈ BIG := big_mem (List.mem_append_right _ (List.mem_of_getElem? (i := 246) (by decide +kernel))) (by decide +kernel)
theorem w_247 : (Jvm.Cond.constantLong "RayField" (89 : Nat) (1024 : Int64)) ∈ BIG := big_mem (List.mem_append_right _ (List.mem_of_getElem? (i := 247) (by decide +kernel))) (by decide +kernel)
theorem w_248 : (Jvm.Cond.methodLink "RayFieldLaw" (59 : Nat) ({ cls := "RayField", name := "within", desc := "(II)I" } : Jvm.MethodName)) ∈ BIG := big_mem (List.mem_append_right _ (List.mem_of_getElem? (i := 248) (by decide +kernel))) (by decide +kernel)
theorem w_249 : (Jvm.Cond.instanceMethod ({ cls := "RayField", name := "within", desc := "(II)I" } : Jvm.MethodName)) ∈ BIG := big_mem (List.mem_append_right _ (List.mem_of_getElem? (i := 249) (by decide +kernel))) (by decide +kernel)
theorem w_250 : (Jvm.Cond.selects "RayField" ({ cls := "RayField", name := "within", desc := "(II)I" } : Jvm.MethodName) ({ cls := "RayField", name := "within", desc := "(II)I" } : Jvm.MethodName)) ∈ BIG := big_mem (List.mem_append_right _ (List.mem_of_getElem? (i := 250) (by decide +kernel))) (by decide +kernel)
theorem w_251 : (Jvm.Cond.code ({ cls := "RayField", name := "within", desc := "(II)I" } : Jvm.MethodName) prog_1_method_12_code (6 : Nat) (Option.some Jvm.ClassFile.FieldType.int)) ∈ BIG := big_mem (List.mem_append_right _ (List.mem_of_getElem? (i := 251) (by decide +kernel))) (by decide +kernel)
theorem w_252 : (Jvm.Cond.methodLink "RayField" (94 : Nat) ({ cls := "RayField$Meeting", name := "isAtMost", desc := "(JJ)Z" } : Jvm.MethodName)) ∈ BIG := big_mem (List.mem_append_right _ (List.mem_of_getElem? (i := 252) (by decide +kernel))) (by decide +kernel)
theorem w_253 : (Jvm.Cond.instanceMethod ({ cls := "RayField$Meeting", name := "isAtMost", desc := "(JJ)Z" } : Jvm.MethodName)) ∈ BIG := big_mem (List.mem_append_right _ (List.mem_of_getElem? (i := 253) (by decide +kernel))) (by decide +kernel)
theorem w_254 : (Jvm.Cond.selects "RayField$Meeting" ({ cls := "RayField$Meeting", name := "isAtMost", desc := "(JJ)Z" } : Jvm.MethodName) ({ cls := "RayField$Meeting", name := "isAtMost", desc := "(JJ)Z" } : Jvm.MethodName)) ∈ BIG := big_mem (List.mem_append_right _ (List.mem_of_getElem? (i := 254) (by decide +kernel))) (by decide +kernel)
theorem w_255 : (Jvm.Cond.code ({ cls := "RayField$Meeting", name := "isAtMost", desc := "(JJ)Z" } : Jvm.MethodName) prog_2_method_4_code (5 : Nat) (Option.some Jvm.ClassFile.FieldType.boolean)) ∈ BIG := big_mem (List.mem_append_right _ (List.mem_of_getElem? (i := 255) (by decide +kernel))) (by decide +kernel)
theorem w_256 : (Jvm.Cond.methodLink "RayFieldLaw" (64 : Nat) ({ cls := "RayField", name := "on", desc := "(II)I" } : Jvm.MethodName)) ∈ BIG := big_mem (List.mem_append_right _ (List.mem_of_getElem? (i := 256) (by decide +kernel))) (by decide +kernel)
theorem w_257 : (Jvm.Cond.instanceMethod ({ cls := "RayField", name := "on", desc := "(II)I" } : Jvm.MethodName)) ∈ BIG := big_mem (List.mem_append_right _ (List.mem_of_getElem? (i := 257) (by decide +kernel))) (by decide +kernel)
theorem w_258 : (Jvm.Cond.selects "RayField" ({ cls := "RayField", name := "on", desc := "(II)I" } : Jvm.MethodName) ({ cls := "RayField", name := "on", desc := "(II)I" } : Jvm.MethodName)) ∈ BIG := big_mem (List.mem_append_right _ (List.mem_of_getElem? (i := 258) (by decide +kernel))) (by decide +kernel)
theorem w_259 : (Jvm.Cond.code ({ cls := "RayField", name := "on", desc := "(II)I" } : Jvm.MethodName) prog_1_method_13_code (5 : Nat) (Option.some Jvm.ClassFile.FieldType.int)) ∈ BIG := big_mem (List.mem_append_right _ (List.mem_of_getElem? (i := 259) (by decide +kernel))) (by decide +kernel)
theorem w_260 : (Jvm.Cond.methodLink "RayField" (98 : Nat) ({ cls := "RayField$Wall", name := "covers", desc := "(II)Z" } : Jvm.MethodName)) ∈ BIG := big_mem (List.mem_append_right _ (List.mem_of_getElem? (i := 260) (by decide +kernel))) (by decide +kernel)
theorem w_261 : (Jvm.Cond.instanceMethod ({ cls := "RayField$Wall", name := "covers", desc := "(II)Z" } : Jvm.MethodName)) ∈ BIG := big_mem (List.mem_append_right _ (List.mem_of_getElem? (i := 261) (by decide +kernel))) (by decide +kernel)
theorem w_262 : (Jvm.Cond.selects "RayField$Wall" ({ cls := "RayField$Wall", name := "covers", desc := "(II)Z" } : Jvm.MethodName) ({ cls := "RayField$Wall", name := "covers", desc := "(II)Z" } : Jvm.MethodName)) ∈ BIG := big_mem (List.mem_append_right _ (List.mem_of_getElem? (i := 262) (by decide +kernel))) (by decide +kernel)
theorem w_263 : (Jvm.Cond.code ({ cls := "RayField$Wall", name := "covers", desc := "(II)Z" } : Jvm.MethodName) prog_4_method_4_code (3 : Nat) (Option.some Jvm.ClassFile.FieldType.boolean)) ∈ BIG := big_mem (List.mem_append_right _ (List.mem_of_getElem? (i := 263) (by decide +kernel))) (by decide +kernel)
theorem w_264 : (Jvm.Cond.methodLinkNest "RayField$Wall" (41 : Nat) ({ cls := "RayField", name := "isBetween", desc := "(III)Z" } : Jvm.MethodName) "RayField") ∈ lw_tbl := (List.mem_append_right _ (List.mem_of_getElem? (i := 264) (by decide +kernel)))
theorem w_265 : (Jvm.Cond.methodLink "RayFieldLaw" (68 : Nat) ({ cls := "RayField", name := "of", desc := "(II)I" } : Jvm.MethodName)) ∈ BIG := big_mem (List.mem_append_right _ (List.mem_of_getElem? (i := 265) (by decide +kernel))) (by decide +kernel)
theorem w_266 : (Jvm.Cond.instanceMethod ({ cls := "RayField", name := "of", desc := "(II)I" } : Jvm.MethodName)) ∈ BIG := big_mem (List.mem_append_right _ (List.mem_of_getElem? (i := 266) (by decide +kernel))) (by decide +kernel)
theorem w_267 : (Jvm.Cond.selects "RayField" ({ cls := "RayField", name := "of", desc := "(II)I" } : Jvm.MethodName) ({ cls := "RayField", name := "of", desc := "(II)I" } : Jvm.MethodName)) ∈ BIG := big_mem (List.mem_append_right _ (List.mem_of_getElem? (i := 267) (by decide +kernel))) (by decide +kernel)
theorem w_268 : (Jvm.Cond.code ({ cls := "RayField", name := "of", desc := "(II)I" } : Jvm.MethodName) prog_1_method_14_code (4 : Nat) (Option.some Jvm.ClassFile.FieldType.int)) ∈ BIG := big_mem (List.mem_append_right _ (List.mem_of_getElem? (i := 268) (by decide +kernel))) (by decide +kernel)
theorem w_269 : (Jvm.Cond.constant "RayField" (102 : Nat) (100000 : Int32)) ∈ BIG := big_mem (List.mem_append_right _ (List.mem_of_getElem? (i := 269) (by decide +kernel))) (by decide +kernel)
theorem w_270 : (Jvm.Cond.methodLink "RayFieldLaw" (72 : Nat) ({ cls := "RayField", name := "look", desc := "(I)I" } : Jvm.MethodName)) ∈ BIG := big_mem (List.mem_append_right _ (List.mem_of_getElem? (i := 270) (by decide +kernel))) (by decide +kernel)
theorem w_271 : (Jvm.Cond.instanceMethod ({ cls := "RayField", name := "look", desc := "(I)I" } : Jvm.MethodName)) ∈ BIG := big_mem (List.mem_append_right _ (List.mem_of_getElem? (i := 271) (by decide +kernel))) (by decide +kernel)
theorem w_272 : (Jvm.Cond.selects "RayField" ({ cls := "RayField", name := "look", desc := "(I)I" } : Jvm.MethodName) ({ cls := "RayField", name := "look", desc := "(I)I" } : Jvm.MethodName)) ∈ BIG := big_mem (List.mem_append_right _ (List.mem_of_getElem? (i := 272) (by decide +kernel))) (by decide +kernel)
theorem w_273 : (Jvm.Cond.code ({ cls := "RayField", name := "look", desc := "(I)I" } : Jvm.MethodName) prog_1_method_15_code (2 : Nat) (Option.some Jvm.ClassFile.FieldType.int)) ∈ BIG := big_mem (List.mem_append_right _ (List.mem_of_getElem? (i := 273) (by decide +kernel))) (by decide +kernel)
theorem w_274 : (Jvm.Cond.classLink "RayFieldLaw" (10 : Nat) "RayFieldModel") ∈ BIG := big_mem (List.mem_append_right _ (List.mem_of_getElem? (i := 274) (by decide +kernel))) (by decide +kernel)
theorem w_275 : (Jvm.Cond.instantiable "RayFieldModel" (18 : Nat)) ∈ BIG := big_mem (List.mem_append_right _ (List.mem_of_getElem? (i := 275) (by decide +kernel))) (by decide +kernel)
theorem w_276 : (Jvm.Cond.methodLink "RayFieldLaw" (12 : Nat) ({ cls := "RayFieldModel", name := "<init>", desc := "()V" } : Jvm.MethodName)) ∈ BIG := big_mem (List.mem_append_right _ (List.mem_of_getElem? (i := 276) (by decide +kernel))) (by decide +kernel)
theorem w_277 : (Jvm.Cond.instanceMethod ({ cls := "RayFieldModel", name := "<init>", desc := "()V" } : Jvm.MethodName)) ∈ BIG := big_mem (List.mem_append_right _ (List.mem_of_getElem? (i := 277) (by decide +kernel))) (by decide +kernel)
theorem w_278 : (Jvm.Cond.code ({ cls := "RayFieldModel", name := "<init>", desc := "()V" } : Jvm.MethodName) prog_6_method_1_code (1 : Nat) (Option.none : Option Jvm.ClassFile.FieldType)) ∈ BIG := big_mem (List.mem_append_right _ (List.mem_of_getElem? (i := 278) (by decide +kernel))) (by decide +kernel)
theorem w_279 : (Jvm.Cond.methodLink "RayFieldModel" (1 : Nat) ({ cls := "java/lang/Object", name := "<init>", desc := "()V" } : Jvm.MethodName)) ∈ BIG := big_mem (List.mem_append_right _ (List.mem_of_getElem? (i := 279) (by decide +kernel))) (by decide +kernel)
theorem w_280 : (Jvm.Cond.fieldLink "RayFieldModel" (29 : Nat) "RayFieldModel" "thrown" "I") ∈ BIG := big_mem (List.mem_append_right _ (List.mem_of_getElem? (i := 280) (by decide +kernel))) (by decide +kernel)
theorem w_281 : (Jvm.Cond.fieldLink "RayFieldModel" (7 : Nat) "RayFieldModel" "there" "[Z") ∈ BIG := big_mem (List.mem_append_right _ (List.mem_of_getElem? (i := 281) (by decide +kernel))) (by decide +kernel)
theorem w_282 : (Jvm.Cond.fieldLink "RayFieldModel" (13 : Nat) "RayFieldModel" "ax" "[I") ∈ BIG := big_mem (List.mem_append_right _ (List.mem_of_getElem? (i := 282) (by decide +kernel))) (by decide +kernel)
theorem w_283 : (Jvm.Cond.fieldLink "RayFieldModel" (17 : Nat) "RayFieldModel" "ay" "[I") ∈ BIG := big_mem (List.mem_append_right _ (List.mem_of_getElem? (i := 283) (by decide +kernel))) (by decide +kernel)
theorem w_284 : (Jvm.Cond.fieldLink "RayFieldModel" (20 : Nat) "RayFieldModel" "bx" "[I") ∈ BIG := big_mem (List.mem_append_right _ (List.mem_of_getElem? (i := 284) (by decide +kernel))) (by decide +kernel)
theorem w_285 : (Jvm.Cond.fieldLink "RayFieldModel" (23 : Nat) "RayFieldModel" "by" "[I") ∈ BIG := big_mem (List.mem_append_right _ (List.mem_of_getElem? (i := 285) (by decide +kernel))) (by decide +kernel)
theorem w_286 : (Jvm.Cond.fieldLink "RayFieldModel" (55 : Nat) "RayFieldModel" "many" "I") ∈ BIG := big_mem (List.mem_append_right _ (List.mem_of_getElem? (i := 286) (by decide +kernel))) (by decide +kernel)
theorem w_287 : (Jvm.Cond.fieldLink "RayFieldModel" (62 : Nat) "RayFieldModel" "hasRay" "Z") ∈ BIG := big_mem (List.mem_append_right _ (List.mem_of_getElem? (i := 287) (by decide +kernel))) (by decide +kernel)
theorem w_288 : (Jvm.Cond.fieldLink "RayFieldModel" (66 : Nat) "RayFieldModel" "ex" "I") ∈ BIG := big_mem (List.mem_append_right _ (List.mem_of_getElem? (i := 288) (by decide +kernel))) (by decide +kernel)
theorem w_289 : (Jvm.Cond.fieldLink "RayFieldModel" (69 : Nat) "RayFieldModel" "ey" "I") ∈ BIG := big_mem (List.mem_append_right _ (List.mem_of_getElem? (i := 289) (by decide +kernel))) (by decide +kernel)
theorem w_290 : (Jvm.Cond.fieldLink "RayFieldModel" (72 : Nat) "RayFieldModel" "dx" "I") ∈ BIG := big_mem (List.mem_append_right _ (List.mem_of_getElem? (i := 290) (by decide +kernel))) (by decide +kernel)
theorem w_291 : (Jvm.Cond.fieldLink "RayFieldModel" (75 : Nat) "RayFieldModel" "dy" "I") ∈ BIG := big_mem (List.mem_append_right _ (List.mem_of_getElem? (i := 291) (by decide +kernel))) (by decide +kernel)
theorem w_292 : (Jvm.Cond.fieldLink "RayFieldModel" (85 : Nat) "RayFieldModel" "above" "J") ∈ BIG := big_mem (List.mem_append_right _ (List.mem_of_getElem? (i := 292) (by decide +kernel))) (by decide +kernel)
theorem w_293 : (Jvm.Cond.fieldLink "RayFieldModel" (88 : Nat) "RayFieldModel" "below" "J") ∈ BIG := big_mem (List.mem_append_right _ (List.mem_of_getElem? (i := 293) (by decide +kernel))) (by decide +kernel)
theorem w_294 : (Jvm.Cond.fieldLink "RayFieldModel" (91 : Nat) "RayFieldModel" "right" "Z") ∈ BIG := big_mem (List.mem_append_right _ (List.mem_of_getElem? (i := 294) (by decide +kernel))) (by decide +kernel)
theorem w_295 : (Jvm.Cond.fieldLink "RayFieldModel" (78 : Nat) "RayFieldModel" "one" "J") ∈ BIG := big_mem (List.mem_append_right _ (List.mem_of_getElem? (i := 295) (by decide +kernel))) (by decide +kernel)
theorem w_296 : (Jvm.Cond.fieldLink "RayFieldModel" (82 : Nat) "RayFieldModel" "two" "J") ∈ BIG := big_mem (List.mem_append_right _ (List.mem_of_getElem? (i := 296) (by decide +kernel))) (by decide +kernel)
theorem w_297 : (Jvm.Cond.fieldLink "RayFieldModel" (26 : Nat) "RayFieldModel" "row" "[I") ∈ BIG := big_mem (List.mem_append_right _ (List.mem_of_getElem? (i := 297) (by decide +kernel))) (by decide +kernel)
theorem w_298 : (Jvm.Cond.lays "RayFieldModel" "RayFieldModel" "thrown" "I") ∈ BIG := big_mem (List.mem_append_right _ (List.mem_of_getElem? (i := 298) (by decide +kernel))) (by decide +kernel)
theorem w_300 : (Jvm.Cond.laysFinal "RayFieldModel" "RayFieldModel" "there" "[Z") ∈ BIG := big_mem (List.mem_append_right _ (List.mem_of_getElem? (i := 300) (by decide +kernel))) (by decide +kernel)
theorem w_302 : (Jvm.Cond.laysFinal "RayFieldModel" "RayFieldModel" "ax" "[I") ∈ BIG := big_mem (List.mem_append_right _ (List.mem_of_getElem? (i := 302) (by decide +kernel))) (by decide +kernel)
theorem w_304 : (Jvm.Cond.laysFinal "RayFieldModel" "RayFieldModel" "ay" "[I") ∈ BIG := big_mem (List.mem_append_right _ (List.mem_of_getElem? (i := 304) (by decide +kernel))) (by decide +kernel)
theorem w_306 : (Jvm.Cond.laysFinal "RayFieldModel" "RayFieldModel" "bx" "[I") ∈ BIG := big_mem (List.mem_append_right _ (List.mem_of_getElem? (i := 306) (by decide +kernel))) (by decide +kernel)
theorem w_308 : (Jvm.Cond.laysFinal "RayFieldModel" "RayFieldModel" "by" "[I") ∈ BIG := big_mem (List.mem_append_right _ (List.mem_of_getElem? (i := 308) (by decide +kernel))) (by decide +kernel)
theorem w_310 : (Jvm.Cond.lays "RayFieldModel" "RayFieldModel" "many" "I") ∈ BIG := big_mem (List.mem_append_right _ (List.mem_of_getElem? (i := 310) (by decide +kernel))) (by decide +kernel)
theorem w_312 : (Jvm.Cond.lays "RayFieldModel" "RayFieldModel" "hasRay" "Z") ∈ BIG := big_mem (List.mem_append_right _ (List.mem_of_getElem? (i := 312) (by decide +kernel))) (by decide +kernel)
theorem w_314 : (Jvm.Cond.lays "RayFieldModel" "RayFieldModel" "ex" "I") ∈ BIG := big_mem (List.mem_append_right _ (List.mem_of_getElem? (i := 314) (by decide +kernel))) (by decide +kernel)
theorem w_316 : (Jvm.Cond.lays "RayFieldModel" "RayFieldModel" "ey" "I") ∈ BIG := big_mem (List.mem_append_right _ (List.mem_of_getElem? (i := 316) (by decide +kernel))) (by decide +kernel)
theorem w_318 : (Jvm.Cond.lays "RayFieldModel" "RayFieldModel" "dx" "I") ∈ BIG := big_mem (List.mem_append_right _ (List.mem_of_getElem? (i := 318) (by decide +kernel))) (by decide +kernel)
theorem w_320 : (Jvm.Cond.lays "RayFieldModel" "RayFieldModel" "dy" "I") ∈ BIG := big_mem (List.mem_append_right _ (List.mem_of_getElem? (i := 320) (by decide +kernel))) (by decide +kernel)
theorem w_322 : (Jvm.Cond.lays "RayFieldModel" "RayFieldModel" "above" "J") ∈ BIG := big_mem (List.mem_append_right _ (List.mem_of_getElem? (i := 322) (by decide +kernel))) (by decide +kernel)
theorem w_324 : (Jvm.Cond.lays "RayFieldModel" "RayFieldModel" "below" "J") ∈ BIG := big_mem (List.mem_append_right _ (List.mem_of_getElem? (i := 324) (by decide +kernel))) (by decide +kernel)
theorem w_326 : (Jvm.Cond.lays "RayFieldModel" "RayFieldModel" "right" "Z") ∈ BIG := big_mem (List.mem_append_right _ (List.mem_of_getElem? (i := 326) (by decide +kernel))) (by decide +kernel)
theorem w_328 : (Jvm.Cond.lays "RayFieldModel" "RayFieldModel" "one" "J") ∈ BIG := big_mem (List.mem_append_right _ (List.mem_of_getElem? (i := 328) (by decide +kernel))) (by decide +kernel)
theorem w_330 : (Jvm.Cond.lays "RayFieldModel" "RayFieldModel" "two" "J") ∈ BIG := big_mem (List.mem_append_right _ (List.mem_of_getElem? (i := 330) (by decide +kernel))) (by decide +kernel)
theorem w_332 : (Jvm.Cond.laysFinal "RayFieldModel" "RayFieldModel" "row" "[I") ∈ BIG := big_mem (List.mem_append_right _ (List.mem_of_getElem? (i := 332) (by decide +kernel))) (by decide +kernel)
theorem w_335 : (Jvm.Cond.arrayClass Jvm.ClassFile.FieldType.boolean) ∈ BIG := big_mem (List.mem_append_right _ (List.mem_of_getElem? (i := 335) (by decide +kernel))) (by decide +kernel)
theorem w_336 : (Jvm.Cond.arrayClass Jvm.ClassFile.FieldType.int) ∈ BIG := big_mem (List.mem_append_right _ (List.mem_of_getElem? (i := 336) (by decide +kernel))) (by decide +kernel)
theorem w_337 : (Jvm.Cond.methodLink "RayFieldLaw" (17 : Nat) ({ cls := "RayFieldModel", name := "put", desc := "(IIII)I" } : Jvm.MethodName)) ∈ BIG := big_mem (List.mem_append_right _ (List.mem_of_getElem? (i := 337) (by decide +kernel))) (by decide +kernel)
theorem w_338 : (Jvm.Cond.instanceMethod ({ cls := "RayFieldModel", name := "put", desc := "(IIII)I" } : Jvm.MethodName)) ∈ BIG := big_mem (List.mem_append_right _ (List.mem_of_getElem? (i := 338) (by decide +kernel))) (by decide +kernel)
theorem w_339 : (Jvm.Cond.selects "RayFieldModel" ({ cls := "RayFieldModel", name := "put", desc := "(IIII)I" } : Jvm.MethodName) ({ cls := "RayFieldModel", name := "put", desc := "(IIII)I" } : Jvm.MethodName)) ∈ BIG := big_mem (List.mem_append_right _ (List.mem_of_getElem? (i := 339) (by decide +kernel))) (by decide +kernel)
theorem w_340 : (Jvm.Cond.code ({ cls := "RayFieldModel", name := "put", desc := "(IIII)I" } : Jvm.MethodName) prog_6_method_9_code (7 : Nat) (Option.some Jvm.ClassFile.FieldType.int)) ∈ BIG := big_mem (List.mem_append_right _ (List.mem_of_getElem? (i := 340) (by decide +kernel))) (by decide +kernel)
theorem w_341 : (Jvm.Cond.methodLink "RayFieldModel" (44 : Nat) ({ cls := "RayFieldModel", name := "free", desc := "()I" } : Jvm.MethodName)) ∈ BIG := big_mem (List.mem_append_right _ (List.mem_of_getElem? (i := 341) (by decide +kernel))) (by decide +kernel)
theorem w_343 : (Jvm.Cond.instanceMethod ({ cls := "RayFieldModel", name := "free", desc := "()I" } : Jvm.MethodName)) ∈ BIG := big_mem (List.mem_append_right _ (List.mem_of_getElem? (i := 343) (by decide +kernel))) (by decide +kernel)
theorem w_344 : (Jvm.Cond.code ({ cls := "RayFieldModel", name := "free", desc := "()I" } : Jvm.MethodName) prog_6_method_5_code (2 : Nat) (Option.some Jvm.ClassFile.FieldType.int)) ∈ BIG := big_mem (List.mem_append_right _ (List.mem_of_getElem? (i := 344) (by decide +kernel))) (by decide +kernel)
theorem w_345 : (Jvm.Cond.methodLink "RayFieldModel" (48 : Nat) ({ cls := "RayFieldModel", name := "isIn", desc := "(II)Z" } : Jvm.MethodName)) ∈ BIG := big_mem (List.mem_append_right _ (List.mem_of_getElem? (i := 345) (by decide +kernel))) (by decide +kernel)
theorem w_346 : (Jvm.Cond.static ({ cls := "RayFieldModel", name := "isIn", desc := "(II)Z" } : Jvm.MethodName)) ∈ BIG := big_mem (List.mem_append_right _ (List.mem_of_getElem? (i := 346) (by decide +kernel))) (by decide +kernel)
theorem w_347 : (Jvm.Cond.code ({ cls := "RayFieldModel", name := "isIn", desc := "(II)Z" } : Jvm.MethodName) prog_6_method_4_code (2 : Nat) (Option.some Jvm.ClassFile.FieldType.boolean)) ∈ BIG := big_mem (List.mem_append_right _ (List.mem_of_getElem? (i := 347) (by decide +kernel))) (by decide +kernel)
theorem w_348 : (Jvm.Cond.methodLink "RayFieldModel" (52 : Nat) ({ cls := "RayFieldModel", name := "areApart", desc := "(II)Z" } : Jvm.MethodName)) ∈ BIG := big_mem (List.mem_append_right _ (List.mem_of_getElem? (i := 348) (by decide +kernel))) (by decide +kernel)
theorem w_350 : (Jvm.Cond.instanceMethod ({ cls := "RayFieldModel", name := "areApart", desc := "(II)Z" } : Jvm.MethodName)) ∈ BIG := big_mem (List.mem_append_right _ (List.mem_of_getElem? (i := 350) (by decide +kernel))) (by decide +kernel)
theorem w_351 : (Jvm.Cond.code ({ cls := "RayFieldModel", name := "areApart", desc := "(II)Z" } : Jvm.MethodName) prog_6_method_8_code (14 : Nat) (Option.some Jvm.ClassFile.FieldType.boolean)) ∈ BIG := big_mem (List.mem_append_right _ (List.mem_of_getElem? (i := 351) (by decide +kernel))) (by decide +kernel)
theorem w_352 : (Jvm.Cond.methodLink "RayFieldModel" (33 : Nat) ({ cls := "RayFieldModel", name := "cross", desc := "(JJJJ)J" } : Jvm.MethodName)) ∈ BIG := big_mem (List.mem_append_right _ (List.mem_of_getElem? (i := 352) (by decide +kernel))) (by decide +kernel)
theorem w_353 : (Jvm.Cond.static ({ cls := "RayFieldModel", name := "cross", desc := "(JJJJ)J" } : Jvm.MethodName)) ∈ BIG := big_mem (List.mem_append_right _ (List.mem_of_getElem? (i := 353) (by decide +kernel))) (by decide +kernel)
theorem w_354 : (Jvm.Cond.code ({ cls := "RayFieldModel", name := "cross", desc := "(JJJJ)J" } : Jvm.MethodName) prog_6_method_3_code (8 : Nat) (Option.some Jvm.ClassFile.FieldType.long)) ∈ BIG := big_mem (List.mem_append_right _ (List.mem_of_getElem? (i := 354) (by decide +kernel))) (by decide +kernel)
theorem w_355 : (Jvm.Cond.methodLink "RayFieldModel" (37 : Nat) ({ cls := "RayFieldModel", name := "isEnd", desc := "(III)Z" } : Jvm.MethodName)) ∈ BIG := big_mem (List.mem_append_right _ (List.mem_of_getElem? (i := 355) (by decide +kernel))) (by decide +kernel)
theorem w_357 : (Jvm.Cond.instanceMethod ({ cls := "RayFieldModel", name := "isEnd", desc := "(III)Z" } : Jvm.MethodName)) ∈ BIG := big_mem (List.mem_append_right _ (List.mem_of_getElem? (i := 357) (by decide +kernel))) (by decide +kernel)
theorem w_358 : (Jvm.Cond.code ({ cls := "RayFieldModel", name := "isEnd", desc := "(III)Z" } : Jvm.MethodName) prog_6_method_7_code (4 : Nat) (Option.some Jvm.ClassFile.FieldType.boolean)) ∈ BIG := big_mem (List.mem_append_right _ (List.mem_of_getElem? (i := 358) (by decide +kernel))) (by decide +kernel)
theorem w_359 : (Jvm.Cond.methodLink "RayFieldModel" (41 : Nat) ({ cls := "RayFieldModel", name := "isOn", desc := "(III)Z" } : Jvm.MethodName)) ∈ BIG := big_mem (List.mem_append_right _ (List.mem_of_getElem? (i := 359) (by decide +kernel))) (by decide +kernel)
theorem w_361 : (Jvm.Cond.instanceMethod ({ cls := "RayFieldModel", name := "isOn", desc := "(III)Z" } : Jvm.MethodName)) ∈ BIG := big_mem (List.mem_append_right _ (List.mem_of_getElem? (i := 361) (by decide +kernel))) (by decide +kernel)
theorem w_362 : (Jvm.Cond.code ({ cls := "RayFieldModel", name := "isOn", desc := "(III)Z" } : Jvm.MethodName) prog_6_method_6_code (8 : Nat) (Option.some Jvm.ClassFile.FieldType.boolean)) ∈ BIG := big_mem (List.mem_append_right _ (List.mem_of_getElem? (i := 362) (by decide +kernel))) (by decide +kernel)
theorem w_363 : (Jvm.Cond.methodLink "RayFieldLaw" (22 : Nat) ({ cls := "RayFieldModel", name := "take", desc := "(I)Z" } : Jvm.MethodName)) ∈ BIG := big_mem (List.mem_append_right _ (List.mem_of_getElem? (i := 363) (by decide +kernel))) (by decide +kernel)
theorem w_364 : (Jvm.Cond.instanceMethod ({ cls := "RayFieldModel", name := "take", desc := "(I)Z" } : Jvm.MethodName)) ∈ BIG := big_mem (List.mem_append_right _ (List.mem_of_getElem? (i := 364) (by decide +kernel))) (by decide +kernel)
theorem w_365 : (Jvm.Cond.selects "RayFieldModel" ({ cls := "RayFieldModel", name := "take", desc := "(I)Z" } : Jvm.MethodName) ({ cls := "RayFieldModel", name := "take", desc := "(I)Z" } : Jvm.MethodName)) ∈ BIG := big_mem (List.mem_append_right _ (List.mem_of_getElem? (i := 365) (by decide +kernel))) (by decide +kernel)
theorem w_366 : (Jvm.Cond.code ({ cls := "RayFieldModel", name := "take", desc := "(I)Z" } : Jvm.MethodName) prog_6_method_11_code (2 : Nat) (Option.some Jvm.ClassFile.FieldType.boolean)) ∈ BIG := big_mem (List.mem_append_right _ (List.mem_of_getElem? (i := 366) (by decide +kernel))) (by decide +kernel)
theorem w_367 : (Jvm.Cond.methodLink "RayFieldModel" (58 : Nat) ({ cls := "RayFieldModel", name := "isWall", desc := "(I)Z" } : Jvm.MethodName)) ∈ BIG := big_mem (List.mem_append_right _ (List.mem_of_getElem? (i := 367) (by decide +kernel))) (by decide +kernel)
theorem w_369 : (Jvm.Cond.instanceMethod ({ cls := "RayFieldModel", name := "isWall", desc := "(I)Z" } : Jvm.MethodName)) ∈ BIG := big_mem (List.mem_append_right _ (List.mem_of_getElem? (i := 369) (by decide +kernel))) (by decide +kernel)
theorem w_370 : (Jvm.Cond.code ({ cls := "RayFieldModel", name := "isWall", desc := "(I)Z" } : Jvm.MethodName) prog_6_method_10_code (2 : Nat) (Option.some Jvm.ClassFile.FieldType.boolean)) ∈ BIG := big_mem (List.mem_append_right _ (List.mem_of_getElem? (i := 370) (by decide +kernel))) (by decide +kernel)
theorem w_371 : (Jvm.Cond.methodLink "RayFieldLaw" (26 : Nat) ({ cls := "RayFieldModel", name := "turn", desc := "(I)Z" } : Jvm.MethodName)) ∈ BIG := big_mem (List.mem_append_right _ (List.mem_of_getElem? (i := 371) (by decide +kernel))) (by decide +kernel)
theorem w_372 : (Jvm.Cond.instanceMethod ({ cls := "RayFieldModel", name := "turn", desc := "(I)Z" } : Jvm.MethodName)) ∈ BIG := big_mem (List.mem_append_right _ (List.mem_of_getElem? (i := 372) (by decide +kernel))) (by decide +kernel)
theorem w_373 : (Jvm.Cond.selects "RayFieldModel" ({ cls := "RayFieldModel", name := "turn", desc := "(I)Z" } : Jvm.MethodName) ({ cls := "RayFieldModel", name := "turn", desc := "(I)Z" } : Jvm.MethodName)) ∈ BIG := big_mem (List.mem_append_right _ (List.mem_of_getElem? (i := 373) (by decide +kernel))) (by decide +kernel)
theorem w_374 : (Jvm.Cond.code ({ cls := "RayFieldModel", name := "turn", desc := "(I)Z" } : Jvm.MethodName) prog_6_method_12_code (4 : Nat) (Option.some Jvm.ClassFile.FieldType.boolean)) ∈ BIG := big_mem (List.mem_append_right _ (List.mem_of_getElem? (i := 374) (by decide +kernel))) (by decide +kernel)
theorem w_375 : (Jvm.Cond.methodLink "RayFieldLaw" (30 : Nat) ({ cls := "RayFieldModel", name := "clear", desc := "()V" } : Jvm.MethodName)) ∈ BIG := big_mem (List.mem_append_right _ (List.mem_of_getElem? (i := 375) (by decide +kernel))) (by decide +kernel)
theorem w_376 : (Jvm.Cond.instanceMethod ({ cls := "RayFieldModel", name := "clear", desc := "()V" } : Jvm.MethodName)) ∈ BIG := big_mem (List.mem_append_right _ (List.mem_of_getElem? (i := 376) (by decide +kernel))) (by decide +kernel)
theorem w_377 : (Jvm.Cond.selects "RayFieldModel" ({ cls := "RayFieldModel", name := "clear", desc := "()V" } : Jvm.MethodName) ({ cls := "RayFieldModel", name := "clear", desc := "()V" } : Jvm.MethodName)) ∈ BIG := big_mem (List.mem_append_right _ (List.mem_of_getElem? (i := 377) (by decide +kernel))) (by decide +kernel)
theorem w_378 : (Jvm.Cond.code ({ cls := "RayFieldModel", name := "clear", desc := "()V" } : Jvm.MethodName) prog_6_method_13_code (2 : Nat) (Option.none : Option Jvm.ClassFile.FieldType)) ∈ BIG := big_mem (List.mem_append_right _ (List.mem_of_getElem? (i := 378) (by decide +kernel))) (by decide +kernel)
theorem w_379 : (Jvm.Cond.methodLink "RayFieldLaw" (35 : Nat) ({ cls := "RayFieldModel", name := "ray", desc := "(IIII)Z" } : Jvm.MethodName)) ∈ BIG := big_mem (List.mem_append_right _ (List.mem_of_getElem? (i := 379) (by decide +kernel))) (by decide +kernel)
theorem w_380 : (Jvm.Cond.instanceMethod ({ cls := "RayFieldModel", name := "ray", desc := "(IIII)Z" } : Jvm.MethodName)) ∈ BIG := big_mem (List.mem_append_right _ (List.mem_of_getElem? (i := 380) (by decide +kernel))) (by decide +kernel)
theorem w_381 : (Jvm.Cond.selects "RayFieldModel" ({ cls := "RayFieldModel", name := "ray", desc := "(IIII)Z" } : Jvm.MethodName) ({ cls := "RayFieldModel", name := "ray", desc := "(IIII)Z" } : Jvm.MethodName)) ∈ BIG := big_mem (List.mem_append_right _ (List.mem_of_getElem? (i := 381) (by decide +kernel))) (by decide +kernel)
theorem w_382 : (Jvm.Cond.code ({ cls := "RayFieldModel", name := "ray", desc := "(IIII)Z" } : Jvm.MethodName) prog_6_method_14_code (5 : Nat) (Option.some Jvm.ClassFile.FieldType.boolean)) ∈ BIG := big_mem (List.mem_append_right _ (List.mem_of_getElem? (i := 382) (by decide +kernel))) (by decide +kernel)
theorem w_383 : (Jvm.Cond.methodLink "RayFieldLaw" (40 : Nat) ({ cls := "RayFieldModel", name := "met", desc := "()I" } : Jvm.MethodName)) ∈ BIG := big_mem (List.mem_append_right _ (List.mem_of_getElem? (i := 383) (by decide +kernel))) (by decide +kernel)
theorem w_384 : (Jvm.Cond.instanceMethod ({ cls := "RayFieldModel", name := "met", desc := "()I" } : Jvm.MethodName)) ∈ BIG := big_mem (List.mem_append_right _ (List.mem_of_getElem? (i := 384) (by decide +kernel))) (by decide +kernel)
theorem w_385 : (Jvm.Cond.selects "RayFieldModel" ({ cls := "RayFieldModel", name := "met", desc := "()I" } : Jvm.MethodName) ({ cls := "RayFieldModel", name := "met", desc := "()I" } : Jvm.MethodName)) ∈ BIG := big_mem (List.mem_append_right _ (List.mem_of_getElem? (i := 385) (by decide +kernel))) (by decide +kernel)
theorem w_386 : (Jvm.Cond.code ({ cls := "RayFieldModel", name := "met", desc := "()I" } : Jvm.MethodName) prog_6_method_18_code (1 : Nat) (Option.some Jvm.ClassFile.FieldType.int)) ∈ BIG := big_mem (List.mem_append_right _ (List.mem_of_getElem? (i := 386) (by decide +kernel))) (by decide +kernel)
theorem w_387 : (Jvm.Cond.methodLink "RayFieldModel" (100 : Nat) ({ cls := "RayFieldModel", name := "gather", desc := "()I" } : Jvm.MethodName)) ∈ BIG := big_mem (List.mem_append_right _ (List.mem_of_getElem? (i := 387) (by decide +kernel))) (by decide +kernel)
theorem w_389 : (Jvm.Cond.instanceMethod ({ cls := "RayFieldModel", name := "gather", desc := "()I" } : Jvm.MethodName)) ∈ BIG := big_mem (List.mem_append_right _ (List.mem_of_getElem? (i := 389) (by decide +kernel))) (by decide +kernel)
theorem w_390 : (Jvm.Cond.code ({ cls := "RayFieldModel", name := "gather", desc := "()I" } : Jvm.MethodName) prog_6_method_17_code (4 : Nat) (Option.some Jvm.ClassFile.FieldType.int)) ∈ BIG := big_mem (List.mem_append_right _ (List.mem_of_getElem? (i := 390) (by decide +kernel))) (by decide +kernel)
theorem w_391 : (Jvm.Cond.methodLink "RayFieldModel" (94 : Nat) ({ cls := "RayFieldModel", name := "meets", desc := "(I)Z" } : Jvm.MethodName)) ∈ BIG := big_mem (List.mem_append_right _ (List.mem_of_getElem? (i := 391) (by decide +kernel))) (by decide +kernel)
theorem w_393 : (Jvm.Cond.instanceMethod ({ cls := "RayFieldModel", name := "meets", desc := "(I)Z" } : Jvm.MethodName)) ∈ BIG := big_mem (List.mem_append_right _ (List.mem_of_getElem? (i := 393) (by decide +kernel))) (by decide +kernel)
theorem w_394 : (Jvm.Cond.code ({ cls := "RayFieldModel", name := "meets", desc := "(I)Z" } : Jvm.MethodName) prog_6_method_15_code (2 : Nat) (Option.some Jvm.ClassFile.FieldType.boolean)) ∈ BIG := big_mem (List.mem_append_right _ (List.mem_of_getElem? (i := 394) (by decide +kernel))) (by decide +kernel)
theorem w_395 : (Jvm.Cond.methodLink "RayFieldModel" (97 : Nat) ({ cls := "RayFieldModel", name := "isAhead", desc := "(II)Z" } : Jvm.MethodName)) ∈ BIG := big_mem (List.mem_append_right _ (List.mem_of_getElem? (i := 395) (by decide +kernel))) (by decide +kernel)
theorem w_397 : (Jvm.Cond.instanceMethod ({ cls := "RayFieldModel", name := "isAhead", desc := "(II)Z" } : Jvm.MethodName)) ∈ BIG := big_mem (List.mem_append_right _ (List.mem_of_getElem? (i := 397) (by decide +kernel))) (by decide +kernel)
theorem w_398 : (Jvm.Cond.code ({ cls := "RayFieldModel", name := "isAhead", desc := "(II)Z" } : Jvm.MethodName) prog_6_method_16_code (8 : Nat) (Option.some Jvm.ClassFile.FieldType.boolean)) ∈ BIG := big_mem (List.mem_append_right _ (List.mem_of_getElem? (i := 398) (by decide +kernel))) (by decide +kernel)
theorem w_399 : (Jvm.Cond.methodLink "RayFieldLaw" (45 : Nat) ({ cls := "RayFieldModel", name := "wall", desc := "(I)I" } : Jvm.MethodName)) ∈ BIG := big_mem (List.mem_append_right _ (List.mem_of_getElem? (i := 399) (by decide +kernel))) (by decide +kernel)
theorem w_400 : (Jvm.Cond.instanceMethod ({ cls := "RayFieldModel", name := "wall", desc := "(I)I" } : Jvm.MethodName)) ∈ BIG := big_mem (List.mem_append_right _ (List.mem_of_getElem? (i := 400) (by decide +kernel))) (by decide +kernel)
theorem w_401 : (Jvm.Cond.selects "RayFieldModel" ({ cls := "RayFieldModel", name := "wall", desc := "(I)I" } : Jvm.MethodName) ({ cls := "RayFieldModel", name := "wall", desc := "(I)I" } : Jvm.MethodName)) ∈ BIG := big_mem (List.mem_append_right _ (List.mem_of_getElem? (i := 401) (by decide +kernel))) (by decide +kernel)
theorem w_402 : (Jvm.Cond.code ({ cls := "RayFieldModel", name := "wall", desc := "(I)I" } : Jvm.MethodName) prog_6_method_20_code (2 : Nat) (Option.some Jvm.ClassFile.FieldType.int)) ∈ BIG := big_mem (List.mem_append_right _ (List.mem_of_getElem? (i := 402) (by decide +kernel))) (by decide +kernel)
theorem w_403 : (Jvm.Cond.methodLink "RayFieldModel" (103 : Nat) ({ cls := "RayFieldModel", name := "isMet", desc := "(I)Z" } : Jvm.MethodName)) ∈ BIG := big_mem (List.mem_append_right _ (List.mem_of_getElem? (i := 403) (by decide +kernel))) (by decide +kernel)
theorem w_405 : (Jvm.Cond.instanceMethod ({ cls := "RayFieldModel", name := "isMet", desc := "(I)Z" } : Jvm.MethodName)) ∈ BIG := big_mem (List.mem_append_right _ (List.mem_of_getElem? (i := 405) (by decide +kernel))) (by decide +kernel)
theorem w_406 : (Jvm.Cond.code ({ cls := "RayFieldModel", name := "isMet", desc := "(I)Z" } : Jvm.MethodName) prog_6_method_19_code (2 : Nat) (Option.some Jvm.ClassFile.FieldType.boolean)) ∈ BIG := big_mem (List.mem_append_right _ (List.mem_of_getElem? (i := 406) (by decide +kernel))) (by decide +kernel)
theorem w_407 : (Jvm.Cond.methodLink "RayFieldLaw" (49 : Nat) ({ cls := "RayFieldModel", name := "isRight", desc := "(I)Z" } : Jvm.MethodName)) ∈ BIG := big_mem (List.mem_append_right _ (List.mem_of_getElem? (i := 407) (by decide +kernel))) (by decide +kernel)
theorem w_408 : (Jvm.Cond.instanceMethod ({ cls := "RayFieldModel", name := "isRight", desc := "(I)Z" } : Jvm.MethodName)) ∈ BIG := big_mem (List.mem_append_right _ (List.mem_of_getElem? (i := 408) (by decide +kernel))) (by decide +kernel)
theorem w_409 : (Jvm.Cond.selects "RayFieldModel" ({ cls := "RayFieldModel", name := "isRight", desc := "(I)Z" } : Jvm.MethodName) ({ cls := "RayFieldModel", name := "isRight", desc := "(I)Z" } : Jvm.MethodName)) ∈ BIG := big_mem (List.mem_append_right _ (List.mem_of_getElem? (i := 409) (by decide +kernel))) (by decide +kernel)
theorem w_410 : (Jvm.Cond.code ({ cls := "RayFieldModel", name := "isRight", desc := "(I)Z" } : Jvm.MethodName) prog_6_method_21_code (2 : Nat) (Option.some Jvm.ClassFile.FieldType.boolean)) ∈ BIG := big_mem (List.mem_append_right _ (List.mem_of_getElem? (i := 410) (by decide +kernel))) (by decide +kernel)
theorem w_411 : (Jvm.Cond.methodLink "RayFieldLaw" (54 : Nat) ({ cls := "RayFieldModel", name := "times", desc := "(II)J" } : Jvm.MethodName)) ∈ BIG := big_mem (List.mem_append_right _ (List.mem_of_getElem? (i := 411) (by decide +kernel))) (by decide +kernel)
theorem w_412 : (Jvm.Cond.instanceMethod ({ cls := "RayFieldModel", name := "times", desc := "(II)J" } : Jvm.MethodName)) ∈ BIG := big_mem (List.mem_append_right _ (List.mem_of_getElem? (i := 412) (by decide +kernel))) (by decide +kernel)
theorem w_413 : (Jvm.Cond.selects "RayFieldModel" ({ cls := "RayFieldModel", name := "times", desc := "(II)J" } : Jvm.MethodName) ({ cls := "RayFieldModel", name := "times", desc := "(II)J" } : Jvm.MethodName)) ∈ BIG := big_mem (List.mem_append_right _ (List.mem_of_getElem? (i := 413) (by decide +kernel))) (by decide +kernel)
theorem w_414 : (Jvm.Cond.code ({ cls := "RayFieldModel", name := "times", desc := "(II)J" } : Jvm.MethodName) prog_6_method_22_code (4 : Nat) (Option.some Jvm.ClassFile.FieldType.long)) ∈ BIG := big_mem (List.mem_append_right _ (List.mem_of_getElem? (i := 414) (by decide +kernel))) (by decide +kernel)
theorem w_415 : (Jvm.Cond.constant "RayFieldModel" (106 : Nat) (1000000 : Int32)) ∈ BIG := big_mem (List.mem_append_right _ (List.mem_of_getElem? (i := 415) (by decide +kernel))) (by decide +kernel)
theorem w_416 : (Jvm.Cond.constantLong "RayFieldModel" (107 : Nat) (-1 : Int64)) ∈ BIG := big_mem (List.mem_append_right _ (List.mem_of_getElem? (i := 416) (by decide +kernel))) (by decide +kernel)
theorem w_417 : (Jvm.Cond.methodLink "RayFieldLaw" (58 : Nat) ({ cls := "RayFieldModel", name := "along", desc := "(I)I" } : Jvm.MethodName)) ∈ BIG := big_mem (List.mem_append_right _ (List.mem_of_getElem? (i := 417) (by decide +kernel))) (by decide +kernel)
theorem w_418 : (Jvm.Cond.instanceMethod ({ cls := "RayFieldModel", name := "along", desc := "(I)I" } : Jvm.MethodName)) ∈ BIG := big_mem (List.mem_append_right _ (List.mem_of_getElem? (i := 418) (by decide +kernel))) (by decide +kernel)
theorem w_419 : (Jvm.Cond.selects "RayFieldModel" ({ cls := "RayFieldModel", name := "along", desc := "(I)I" } : Jvm.MethodName) ({ cls := "RayFieldModel", name := "along", desc := "(I)I" } : Jvm.MethodName)) ∈ BIG := big_mem (List.mem_append_right _ (List.mem_of_getElem? (i := 419) (by decide +kernel))) (by decide +kernel)
theorem w_420 : (Jvm.Cond.code ({ cls := "RayFieldModel", name := "along", desc := "(I)I" } : Jvm.MethodName) prog_6_method_24_code (3 : Nat) (Option.some Jvm.ClassFile.FieldType.int)) ∈ BIG := big_mem (List.mem_append_right _ (List.mem_of_getElem? (i := 420) (by decide +kernel))) (by decide +kernel)
theorem w_421 : (Jvm.Cond.constantLong "RayFieldModel" (109 : Nat) (1024 : Int64)) ∈ BIG := big_mem (List.mem_append_right _ (List.mem_of_getElem? (i := 421) (by decide +kernel))) (by decide +kernel)
theorem w_422 : (Jvm.Cond.methodLink "RayFieldModel" (111 : Nat) ({ cls := "RayFieldModel", name := "down", desc := "(JJ)J" } : Jvm.MethodName)) ∈ BIG := big_mem (List.mem_append_right _ (List.mem_of_getElem? (i := 422) (by decide +kernel))) (by decide +kernel)
theorem w_423 : (Jvm.Cond.static ({ cls := "RayFieldModel", name := "down", desc := "(JJ)J" } : Jvm.MethodName)) ∈ BIG := big_mem (List.mem_append_right _ (List.mem_of_getElem? (i := 423) (by decide +kernel))) (by decide +kernel)
theorem w_424 : (Jvm.Cond.code ({ cls := "RayFieldModel", name := "down", desc := "(JJ)J" } : Jvm.MethodName) prog_6_method_23_code (6 : Nat) (Option.some Jvm.ClassFile.FieldType.long)) ∈ BIG := big_mem (List.mem_append_right _ (List.mem_of_getElem? (i := 424) (by decide +kernel))) (by decide +kernel)
theorem w_425 : (Jvm.Cond.methodLink "RayFieldLaw" (63 : Nat) ({ cls := "RayFieldModel", name := "within", desc := "(II)I" } : Jvm.MethodName)) ∈ BIG := big_mem (List.mem_append_right _ (List.mem_of_getElem? (i := 425) (by decide +kernel))) (by decide +kernel)
theorem w_426 : (Jvm.Cond.instanceMethod ({ cls := "RayFieldModel", name := "within", desc := "(II)I" } : Jvm.MethodName)) ∈ BIG := big_mem (List.mem_append_right _ (List.mem_of_getElem? (i := 426) (by decide +kernel))) (by decide +kernel)
theorem w_427 : (Jvm.Cond.selects "RayFieldModel" ({ cls := "RayFieldModel", name := "within", desc := "(II)I" } : Jvm.MethodName) ({ cls := "RayFieldModel", name := "within", desc := "(II)I" } : Jvm.MethodName)) ∈ BIG := big_mem (List.mem_append_right _ (List.mem_of_getElem? (i := 427) (by decide +kernel))) (by decide +kernel)
theorem w_428 : (Jvm.Cond.code ({ cls := "RayFieldModel", name := "within", desc := "(II)I" } : Jvm.MethodName) prog_6_method_25_code (5 : Nat) (Option.some Jvm.ClassFile.FieldType.int)) ∈ BIG := big_mem (List.mem_append_right _ (List.mem_of_getElem? (i := 428) (by decide +kernel))) (by decide +kernel)
theorem w_429 : (Jvm.Cond.methodLink "RayFieldLaw" (67 : Nat) ({ cls := "RayFieldModel", name := "on", desc := "(II)I" } : Jvm.MethodName)) ∈ BIG := big_mem (List.mem_append_right _ (List.mem_of_getElem? (i := 429) (by decide +kernel))) (by decide +kernel)
theorem w_430 : (Jvm.Cond.instanceMethod ({ cls := "RayFieldModel", name := "on", desc := "(II)I" } : Jvm.MethodName)) ∈ BIG := big_mem (List.mem_append_right _ (List.mem_of_getElem? (i := 430) (by decide +kernel))) (by decide +kernel)
theorem w_431 : (Jvm.Cond.selects "RayFieldModel" ({ cls := "RayFieldModel", name := "on", desc := "(II)I" } : Jvm.MethodName) ({ cls := "RayFieldModel", name := "on", desc := "(II)I" } : Jvm.MethodName)) ∈ BIG := big_mem (List.mem_append_right _ (List.mem_of_getElem? (i := 431) (by decide +kernel))) (by decide +kernel)
theorem w_432 : (Jvm.Cond.code ({ cls := "RayFieldModel", name := "on", desc := "(II)I" } : Jvm.MethodName) prog_6_method_26_code (4 : Nat) (Option.some Jvm.ClassFile.FieldType.int)) ∈ BIG := big_mem (List.mem_append_right _ (List.mem_of_getElem? (i := 432) (by decide +kernel))) (by decide +kernel)
theorem w_433 : (Jvm.Cond.methodLink "RayFieldLaw" (71 : Nat) ({ cls := "RayFieldModel", name := "of", desc := "(II)I" } : Jvm.MethodName)) ∈ BIG := big_mem (List.mem_append_right _ (List.mem_of_getElem? (i := 433) (by decide +kernel))) (by decide +kernel)
theorem w_434 : (Jvm.Cond.instanceMethod ({ cls := "RayFieldModel", name := "of", desc := "(II)I" } : Jvm.MethodName)) ∈ BIG := big_mem (List.mem_append_right _ (List.mem_of_getElem? (i := 434) (by decide +kernel))) (by decide +kernel)
theorem w_435 : (Jvm.Cond.selects "RayFieldModel" ({ cls := "RayFieldModel", name := "of", desc := "(II)I" } : Jvm.MethodName) ({ cls := "RayFieldModel", name := "of", desc := "(II)I" } : Jvm.MethodName)) ∈ BIG := big_mem (List.mem_append_right _ (List.mem_of_getElem? (i := 435) (by decide +kernel))) (by decide +kernel)
theorem w_436 : (Jvm.Cond.code ({ cls := "RayFieldModel", name := "of", desc := "(II)I" } : Jvm.MethodName) prog_6_method_27_code (3 : Nat) (Option.some Jvm.ClassFile.FieldType.int)) ∈ BIG := big_mem (List.mem_append_right _ (List.mem_of_getElem? (i := 436) (by decide +kernel))) (by decide +kernel)
theorem w_437 : (Jvm.Cond.constant "RayFieldModel" (115 : Nat) (100000 : Int32)) ∈ BIG := big_mem (List.mem_append_right _ (List.mem_of_getElem? (i := 437) (by decide +kernel))) (by decide +kernel)
theorem w_438 : (Jvm.Cond.methodLink "RayFieldLaw" (75 : Nat) ({ cls := "RayFieldModel", name := "look", desc := "(I)I" } : Jvm.MethodName)) ∈ BIG := big_mem (List.mem_append_right _ (List.mem_of_getElem? (i := 438) (by decide +kernel))) (by decide +kernel)
theorem w_439 : (Jvm.Cond.instanceMethod ({ cls := "RayFieldModel", name := "look", desc := "(I)I" } : Jvm.MethodName)) ∈ BIG := big_mem (List.mem_append_right _ (List.mem_of_getElem? (i := 439) (by decide +kernel))) (by decide +kernel)
theorem w_440 : (Jvm.Cond.selects "RayFieldModel" ({ cls := "RayFieldModel", name := "look", desc := "(I)I" } : Jvm.MethodName) ({ cls := "RayFieldModel", name := "look", desc := "(I)I" } : Jvm.MethodName)) ∈ BIG := big_mem (List.mem_append_right _ (List.mem_of_getElem? (i := 440) (by decide +kernel))) (by decide +kernel)
theorem w_441 : (Jvm.Cond.code ({ cls := "RayFieldModel", name := "look", desc := "(I)I" } : Jvm.MethodName) prog_6_method_28_code (2 : Nat) (Option.some Jvm.ClassFile.FieldType.int)) ∈ BIG := big_mem (List.mem_append_right _ (List.mem_of_getElem? (i := 441) (by decide +kernel))) (by decide +kernel)
end
section
theorem d_RF_init_0 : decode b_RF_init 0 = .ok (.aload_n 0, 1) := by decide +kernel
theorem d_RF_init_1 : decode b_RF_init 1 = .ok (.invokespecial 1, 3) := by decide +kernel
theorem d_RF_init_4 : decode b_RF_init 4 = .ok (.aload_n 0, 1) := by decide +kernel
theorem d_RF_init_5 : decode b_RF_init 5 = .ok (.bipush 64, 2) := by decide +kernel
theorem d_RF_init_7 : decode b_RF_init 7 = .ok (.anewarray 9, 3) := by decide +kernel
theorem d_RF_init_10 : decode b_RF_init 10 = .ok (.putfield 11, 3) := by decide +kernel
theorem d_RF_init_13 : decode b_RF_init 13 = .ok (.aload_n 0, 1) := by decide +kernel
theorem d_RF_init_14 : decode b_RF_init 14 = .ok (.bipush 64, 2) := by decide +kernel
theorem d_RF_init_16 : decode b_RF_init 16 = .ok (.anewarray 15, 3) := by decide +kernel
theorem d_RF_init_19 : decode b_RF_init 19 = .ok (.putfield 17, 3) := by decide +kernel
theorem d_RF_init_22 : decode b_RF_init 22 = .ok (.return_, 1) := by decide +kernel
theorem d_RF_put_0 : decode b_RF_put 0 = .ok (.iload_n 1, 1) := by decide +kernel
theorem d_RF_put_1 : decode b_RF_put 1 = .ok (.iload_n 2, 1) := by decide +kernel
theorem d_RF_put_2 : decode b_RF_put 2 = .ok (.sipush 2000, 3) := by decide +kernel
theorem d_RF_put_5 : decode b_RF_put 5 = .ok (.invokestatic 21, 3) := by decide +kernel
theorem d_RF_put_8 : decode b_RF_put 8 = .ok (.ifCond .eq 15, 3) := by decide +kernel
theorem d_RF_put_11 : decode b_RF_put 11 = .ok (.iload_n 3, 1) := by decide +kernel
theorem d_RF_put_12 : decode b_RF_put 12 = .ok (.iload 4, 2) := by decide +kernel
theorem d_RF_put_14 : decode b_RF_put 14 = .ok (.sipush 2000, 3) := by decide +kernel
theorem d_RF_put_17 : decode b_RF_put 17 = .ok (.invokestatic 21, 3) := by decide +kernel
theorem d_RF_put_20 : decode b_RF_put 20 = .ok (.ifCond .ne 5, 3) := by decide +kernel
theorem d_RF_put_23 : decode b_RF_put 23 = .ok (.iconst (-1), 1) := by decide +kernel
theorem d_RF_put_24 : decode b_RF_put 24 = .ok (.ireturn, 1) := by decide +kernel
theorem d_RF_put_25 : decode b_RF_put 25 = .ok (.iload_n 1, 1) := by decide +kernel
theorem d_RF_put_26 : decode b_RF_put 26 = .ok (.iload_n 3, 1) := by decide +kernel
theorem d_RF_put_27 : decode b_RF_put 27 = .ok (.if_icmp .ne 11, 3) := by decide +kernel
theorem d_RF_put_30 : decode b_RF_put 30 = .ok (.iload_n 2, 1) := by decide +kernel
theorem d_RF_put_31 : decode b_RF_put 31 = .ok (.iload 4, 2) := by decide +kernel
theorem d_RF_put_33 : decode b_RF_put 33 = .ok (.if_icmp .ne 5, 3) := by decide +kernel
theorem d_RF_put_36 : decode b_RF_put 36 = .ok (.iconst (-1), 1) := by decide +kernel
theorem d_RF_put_37 : decode b_RF_put 37 = .ok (.ireturn, 1) := by decide +kernel
theorem d_RF_put_38 : decode b_RF_put 38 = .ok (.aload_n 0, 1) := by decide +kernel
theorem d_RF_put_39 : decode b_RF_put 39 = .ok (.invokevirtual 25, 3) := by decide +kernel
theorem d_RF_put_42 : decode b_RF_put 42 = .ok (.istore 5, 2) := by decide +kernel
theorem d_RF_put_44 : decode b_RF_put 44 = .ok (.iload 5, 2) := by decide +kernel
theorem d_RF_put_46 : decode b_RF_put 46 = .ok (.invokestatic 29, 3) := by decide +kernel
theorem d_RF_put_49 : decode b_RF_put 49 = .ok (.ifCond .ne 5, 3) := by decide +kernel
theorem d_RF_put_52 : decode b_RF_put 52 = .ok (.iconst (-1), 1) := by decide +kernel
theorem d_RF_put_53 : decode b_RF_put 53 = .ok (.ireturn, 1) := by decide +kernel
theorem d_RF_put_54 : decode b_RF_put 54 = .ok (.new 9, 3) := by decide +kernel
theorem d_RF_put_57 : decode b_RF_put 57 = .ok (.dup, 1) := by decide +kernel
theorem d_RF_put_58 : decode b_RF_put 58 = .ok (.iload_n 1, 1) := by decide +kernel
theorem d_RF_put_59 : decode b_RF_put 59 = .ok (.iload_n 2, 1) := by decide +kernel
theorem d_RF_put_60 : decode b_RF_put 60 = .ok (.iload_n 3, 1) := by decide +kernel
theorem d_RF_put_61 : decode b_RF_put 61 = .ok (.iload 4, 2) := by decide +kernel
theorem d_RF_put_63 : decode b_RF_put 63 = .ok (.invokespecial 33, 3) := by decide +kernel
theorem d_RF_put_66 : decode b_RF_put 66 = .ok (.astore 6, 2) := by decide +kernel
theorem d_RF_put_68 : decode b_RF_put 68 = .ok (.aload_n 0, 1) := by decide +kernel
theorem d_RF_put_69 : decode b_RF_put 69 = .ok (.aload 6, 2) := by decide +kernel
theorem d_RF_put_71 : decode b_RF_put 71 = .ok (.invokevirtual 36, 3) := by decide +kernel
theorem d_RF_put_74 : decode b_RF_put 74 = .ok (.ifCond .eq 5, 3) := by decide +kernel
theorem d_RF_put_77 : decode b_RF_put 77 = .ok (.iconst (-1), 1) := by decide +kernel
theorem d_RF_put_78 : decode b_RF_put 78 = .ok (.ireturn, 1) := by decide +kernel
theorem d_RF_put_79 : decode b_RF_put 79 = .ok (.aload_n 0, 1) := by decide +kernel
theorem d_RF_put_80 : decode b_RF_put 80 = .ok (.getfield 11, 3) := by decide +kernel
theorem d_RF_put_83 : decode b_RF_put 83 = .ok (.iload 5, 2) := by decide +kernel
theorem d_RF_put_85 : decode b_RF_put 85 = .ok (.aload 6, 2) := by decide +kernel
theorem d_RF_put_87 : decode b_RF_put 87 = .ok (.aastore, 1) := by decide +kernel
theorem d_RF_put_88 : decode b_RF_put 88 = .ok (.aload_n 0, 1) := by decide +kernel
theorem d_RF_put_89 : decode b_RF_put 89 = .ok (.dup, 1) := by decide +kernel
theorem d_RF_put_90 : decode b_RF_put 90 = .ok (.getfield 40, 3) := by decide +kernel
theorem d_RF_put_93 : decode b_RF_put 93 = .ok (.iconst 1, 1) := by decide +kernel
theorem d_RF_put_94 : decode b_RF_put 94 = .ok (.iadd, 1) := by decide +kernel
theorem d_RF_put_95 : decode b_RF_put 95 = .ok (.putfield 40, 3) := by decide +kernel
theorem d_RF_put_98 : decode b_RF_put 98 = .ok (.aload_n 0, 1) := by decide +kernel
theorem d_RF_put_99 : decode b_RF_put 99 = .ok (.invokevirtual 44, 3) := by decide +kernel
theorem d_RF_put_102 : decode b_RF_put 102 = .ok (.iload 5, 2) := by decide +kernel
theorem d_RF_put_104 : decode b_RF_put 104 = .ok (.ireturn, 1) := by decide +kernel
theorem d_RF_take_0 : decode b_RF_take 0 = .ok (.aload_n 0, 1) := by decide +kernel
theorem d_RF_take_1 : decode b_RF_take 1 = .ok (.iload_n 1, 1) := by decide +kernel
theorem d_RF_take_2 : decode b_RF_take 2 = .ok (.invokevirtual 47, 3) := by decide +kernel
theorem d_RF_take_5 : decode b_RF_take 5 = .ok (.ifnonnull 5, 3) := by decide +kernel
theorem d_RF_take_8 : decode b_RF_take 8 = .ok (.iconst 0, 1) := by decide +kernel
theorem d_RF_take_9 : decode b_RF_take 9 = .ok (.ireturn, 1) := by decide +kernel
theorem d_RF_take_10 : decode b_RF_take 10 = .ok (.aload_n 0, 1) := by decide +kernel
theorem d_RF_take_11 : decode b_RF_take 11 = .ok (.getfield 11, 3) := by decide +kernel
theorem d_RF_take_14 : decode b_RF_take 14 = .ok (.iload_n 1, 1) := by decide +kernel
theorem d_RF_take_15 : decode b_RF_take 15 = .ok (.aconst_null, 1) := by decide +kernel
theorem d_RF_take_16 : decode b_RF_take 16 = .ok (.aastore, 1) := by decide +kernel
theorem d_RF_take_17 : decode b_RF_take 17 = .ok (.aload_n 0, 1) := by decide +kernel
theorem d_RF_take_18 : decode b_RF_take 18 = .ok (.dup, 1) := by decide +kernel
theorem d_RF_take_19 : decode b_RF_take 19 = .ok (.getfield 40, 3) := by decide +kernel
theorem d_RF_take_22 : decode b_RF_take 22 = .ok (.iconst 1, 1) := by decide +kernel
theorem d_RF_take_23 : decode b_RF_take 23 = .ok (.isub, 1) := by decide +kernel
theorem d_RF_take_24 : decode b_RF_take 24 = .ok (.putfield 40, 3) := by decide +kernel
theorem d_RF_take_27 : decode b_RF_take 27 = .ok (.aload_n 0, 1) := by decide +kernel
theorem d_RF_take_28 : decode b_RF_take 28 = .ok (.invokevirtual 44, 3) := by decide +kernel
theorem d_RF_take_31 : decode b_RF_take 31 = .ok (.iconst 1, 1) := by decide +kernel
theorem d_RF_take_32 : decode b_RF_take 32 = .ok (.ireturn, 1) := by decide +kernel
theorem d_RF_turn_0 : decode b_RF_turn 0 = .ok (.aload_n 0, 1) := by decide +kernel
theorem d_RF_turn_1 : decode b_RF_turn 1 = .ok (.iload_n 1, 1) := by decide +kernel
theorem d_RF_turn_2 : decode b_RF_turn 2 = .ok (.invokevirtual 47, 3) := by decide +kernel
theorem d_RF_turn_5 : decode b_RF_turn 5 = .ok (.astore_n 2, 1) := by decide +kernel
theorem d_RF_turn_6 : decode b_RF_turn 6 = .ok (.aload_n 2, 1) := by decide +kernel
theorem d_RF_turn_7 : decode b_RF_turn 7 = .ok (.ifnonnull 5, 3) := by decide +kernel
theorem d_RF_turn_10 : decode b_RF_turn 10 = .ok (.iconst 0, 1) := by decide +kernel
theorem d_RF_turn_11 : decode b_RF_turn 11 = .ok (.ireturn, 1) := by decide +kernel
theorem d_RF_turn_12 : decode b_RF_turn 12 = .ok (.aload_n 2, 1) := by decide +kernel
theorem d_RF_turn_13 : decode b_RF_turn 13 = .ok (.invokevirtual 51, 3) := by decide +kernel
theorem d_RF_turn_16 : decode b_RF_turn 16 = .ok (.aload_n 0, 1) := by decide +kernel
theorem d_RF_turn_17 : decode b_RF_turn 17 = .ok (.invokevirtual 44, 3) := by decide +kernel
theorem d_RF_turn_20 : decode b_RF_turn 20 = .ok (.iconst 1, 1) := by decide +kernel
theorem d_RF_turn_21 : decode b_RF_turn 21 = .ok (.ireturn, 1) := by decide +kernel
theorem d_RF_clear_0 : decode b_RF_clear 0 = .ok (.iconst 0, 1) := by decide +kernel
theorem d_RF_clear_1 : decode b_RF_clear 1 = .ok (.istore_n 1, 1) := by decide +kernel
theorem d_RF_clear_2 : decode b_RF_clear 2 = .ok (.iload_n 1, 1) := by decide +kernel
theorem d_RF_clear_3 : decode b_RF_clear 3 = .ok (.aload_n 0, 1) := by decide +kernel
theorem d_RF_clear_4 : decode b_RF_clear 4 = .ok (.getfield 11, 3) := by decide +kernel
theorem d_RF_clear_7 : decode b_RF_clear 7 = .ok (.arraylength, 1) := by decide +kernel
theorem d_RF_clear_8 : decode b_RF_clear 8 = .ok (.if_icmp .ge 16, 3) := by decide +kernel
theorem d_RF_clear_11 : decode b_RF_clear 11 = .ok (.aload_n 0, 1) := by decide +kernel
theorem d_RF_clear_12 : decode b_RF_clear 12 = .ok (.getfield 11, 3) := by decide +kernel
theorem d_RF_clear_15 : decode b_RF_clear 15 = .ok (.iload_n 1, 1) := by decide +kernel
theorem d_RF_clear_16 : decode b_RF_clear 16 = .ok (.aconst_null, 1) := by decide +kernel
theorem d_RF_clear_17 : decode b_RF_clear 17 = .ok (.aastore, 1) := by decide +kernel
theorem d_RF_clear_18 : decode b_RF_clear 18 = .ok (.iinc 1 1, 3) := by decide +kernel
theorem d_RF_clear_21 : decode b_RF_clear 21 = .ok (.goto (-19), 3) := by decide +kernel
theorem d_RF_clear_24 : decode b_RF_clear 24 = .ok (.aload_n 0, 1) := by decide +kernel
theorem d_RF_clear_25 : decode b_RF_clear 25 = .ok (.iconst 0, 1) := by decide +kernel
theorem d_RF_clear_26 : decode b_RF_clear 26 = .ok (.putfield 40, 3) := by decide +kernel
theorem d_RF_clear_29 : decode b_RF_clear 29 = .ok (.aload_n 0, 1) := by decide +kernel
theorem d_RF_clear_30 : decode b_RF_clear 30 = .ok (.invokevirtual 44, 3) := by decide +kernel
theorem d_RF_clear_33 : decode b_RF_clear 33 = .ok (.return_, 1) := by decide +kernel
theorem d_RF_ray_0 : decode b_RF_ray 0 = .ok (.iload_n 1, 1) := by decide +kernel
theorem d_RF_ray_1 : decode b_RF_ray 1 = .ok (.iload_n 2, 1) := by decide +kernel
theorem d_RF_ray_2 : decode b_RF_ray 2 = .ok (.sipush 4000, 3) := by decide +kernel
theorem d_RF_ray_5 : decode b_RF_ray 5 = .ok (.invokestatic 21, 3) := by decide +kernel
theorem d_RF_ray_8 : decode b_RF_ray 8 = .ok (.ifCond .eq 15, 3) := by decide +kernel
theorem d_RF_ray_11 : decode b_RF_ray 11 = .ok (.iload_n 3, 1) := by decide +kernel
theorem d_RF_ray_12 : decode b_RF_ray 12 = .ok (.iload 4, 2) := by decide +kernel
theorem d_RF_ray_14 : decode b_RF_ray 14 = .ok (.sipush 20000, 3) := by decide +kernel
theorem d_RF_ray_17 : decode b_RF_ray 17 = .ok (.invokestatic 21, 3) := by decide +kernel
theorem d_RF_ray_20 : decode b_RF_ray 20 = .ok (.ifCond .ne 5, 3) := by decide +kernel
theorem d_RF_ray_23 : decode b_RF_ray 23 = .ok (.iconst 0, 1) := by decide +kernel
theorem d_RF_ray_24 : decode b_RF_ray 24 = .ok (.ireturn, 1) := by decide +kernel
theorem d_RF_ray_25 : decode b_RF_ray 25 = .ok (.iload_n 3, 1) := by decide +kernel
theorem d_RF_ray_26 : decode b_RF_ray 26 = .ok (.ifCond .ne 10, 3) := by decide +kernel
theorem d_RF_ray_29 : decode b_RF_ray 29 = .ok (.iload 4, 2) := by decide +kernel
theorem d_RF_ray_31 : decode b_RF_ray 31 = .ok (.ifCond .ne 5, 3) := by decide +kernel
theorem d_RF_ray_34 : decode b_RF_ray 34 = .ok (.iconst 0, 1) := by decide +kernel
theorem d_RF_ray_35 : decode b_RF_ray 35 = .ok (.ireturn, 1) := by decide +kernel
theorem d_RF_ray_36 : decode b_RF_ray 36 = .ok (.aload_n 0, 1) := by decide +kernel
theorem d_RF_ray_37 : decode b_RF_ray 37 = .ok (.new 54, 3) := by decide +kernel
theorem d_RF_ray_40 : decode b_RF_ray 40 = .ok (.dup, 1) := by decide +kernel
theorem d_RF_ray_41 : decode b_RF_ray 41 = .ok (.iload_n 1, 1) := by decide +kernel
theorem d_RF_ray_42 : decode b_RF_ray 42 = .ok (.iload_n 2, 1) := by decide +kernel
theorem d_RF_ray_43 : decode b_RF_ray 43 = .ok (.iload_n 3, 1) := by decide +kernel
theorem d_RF_ray_44 : decode b_RF_ray 44 = .ok (.iload 4, 2) := by decide +kernel
theorem d_RF_ray_46 : decode b_RF_ray 46 = .ok (.invokespecial 56, 3) := by decide +kernel
theorem d_RF_ray_49 : decode b_RF_ray 49 = .ok (.putfield 57, 3) := by decide +kernel
theorem d_RF_ray_52 : decode b_RF_ray 52 = .ok (.aload_n 0, 1) := by decide +kernel
theorem d_RF_ray_53 : decode b_RF_ray 53 = .ok (.invokevirtual 44, 3) := by decide +kernel
theorem d_RF_ray_56 : decode b_RF_ray 56 = .ok (.iconst 1, 1) := by decide +kernel
theorem d_RF_ray_57 : decode b_RF_ray 57 = .ok (.ireturn, 1) := by decide +kernel
theorem d_RF_met_0 : decode b_RF_met 0 = .ok (.aload_n 0, 1) := by decide +kernel
theorem d_RF_met_1 : decode b_RF_met 1 = .ok (.getfield 57, 3) := by decide +kernel
theorem d_RF_met_4 : decode b_RF_met 4 = .ok (.ifnonnull 7, 3) := by decide +kernel
theorem d_RF_met_7 : decode b_RF_met 7 = .ok (.iconst (-1), 1) := by decide +kernel
theorem d_RF_met_8 : decode b_RF_met 8 = .ok (.goto 7, 3) := by decide +kernel
theorem d_RF_met_11 : decode b_RF_met 11 = .ok (.aload_n 0, 1) := by decide +kernel
theorem d_RF_met_12 : decode b_RF_met 12 = .ok (.getfield 61, 3) := by decide +kernel
theorem d_RF_met_15 : decode b_RF_met 15 = .ok (.ireturn, 1) := by decide +kernel
theorem d_RF_wall_0 : decode b_RF_wall 0 = .ok (.aload_n 0, 1) := by decide +kernel
theorem d_RF_wall_1 : decode b_RF_wall 1 = .ok (.iload_n 1, 1) := by decide +kernel
theorem d_RF_wall_2 : decode b_RF_wall 2 = .ok (.invokevirtual 64, 3) := by decide +kernel
theorem d_RF_wall_5 : decode b_RF_wall 5 = .ok (.astore_n 2, 1) := by decide +kernel
theorem d_RF_wall_6 : decode b_RF_wall 6 = .ok (.aload_n 2, 1) := by decide +kernel
theorem d_RF_wall_7 : decode b_RF_wall 7 = .ok (.ifnonnull 7, 3) := by decide +kernel
theorem d_RF_wall_10 : decode b_RF_wall 10 = .ok (.iconst (-1), 1) := by decide +kernel
theorem d_RF_wall_11 : decode b_RF_wall 11 = .ok (.goto 7, 3) := by decide +kernel
theorem d_RF_wall_14 : decode b_RF_wall 14 = .ok (.aload_n 2, 1) := by decide +kernel
theorem d_RF_wall_15 : decode b_RF_wall 15 = .ok (.getfield 68, 3) := by decide +kernel
theorem d_RF_wall_18 : decode b_RF_wall 18 = .ok (.ireturn, 1) := by decide +kernel
theorem d_RF_isRight_0 : decode b_RF_isRight 0 = .ok (.aload_n 0, 1) := by decide +kernel
theorem d_RF_isRight_1 : decode b_RF_isRight 1 = .ok (.iload_n 1, 1) := by decide +kernel
theorem d_RF_isRight_2 : decode b_RF_isRight 2 = .ok (.invokevirtual 64, 3) := by decide +kernel
theorem d_RF_isRight_5 : decode b_RF_isRight 5 = .ok (.astore_n 2, 1) := by decide +kernel
theorem d_RF_isRight_6 : decode b_RF_isRight 6 = .ok (.aload_n 2, 1) := by decide +kernel
theorem d_RF_isRight_7 : decode b_RF_isRight 7 = .ok (.ifnull 14, 3) := by decide +kernel
theorem d_RF_isRight_10 : decode b_RF_isRight 10 = .ok (.aload_n 2, 1) := by decide +kernel
theorem d_RF_isRight_11 : decode b_RF_isRight 11 = .ok (.getfield 71, 3) := by decide +kernel
theorem d_RF_isRight_14 : decode b_RF_isRight 14 = .ok (.ifCond .eq 7, 3) := by decide +kernel
theorem d_RF_isRight_17 : decode b_RF_isRight 17 = .ok (.iconst 1, 1) := by decide +kernel
theorem d_RF_isRight_18 : decode b_RF_isRight 18 = .ok (.goto 4, 3) := by decide +kernel
theorem d_RF_isRight_21 : decode b_RF_isRight 21 = .ok (.iconst 0, 1) := by decide +kernel
theorem d_RF_isRight_22 : decode b_RF_isRight 22 = .ok (.ireturn, 1) := by decide +kernel
theorem d_RF_times_0 : decode b_RF_times 0 = .ok (.aload_n 0, 1) := by decide +kernel
theorem d_RF_times_1 : decode b_RF_times 1 = .ok (.iload_n 1, 1) := by decide +kernel
theorem d_RF_times_2 : decode b_RF_times 2 = .ok (.invokevirtual 64, 3) := by decide +kernel
theorem d_RF_times_5 : decode b_RF_times 5 = .ok (.astore_n 3, 1) := by decide +kernel
theorem d_RF_times_6 : decode b_RF_times 6 = .ok (.aload_n 3, 1) := by decide +kernel
theorem d_RF_times_7 : decode b_RF_times 7 = .ok (.ifnull 13, 3) := by decide +kernel
theorem d_RF_times_10 : decode b_RF_times 10 = .ok (.iload_n 2, 1) := by decide +kernel
theorem d_RF_times_11 : decode b_RF_times 11 = .ok (.iconst 0, 1) := by decide +kernel
theorem d_RF_times_12 : decode b_RF_times 12 = .ok (.ldc 75, 2) := by decide +kernel
theorem d_RF_times_14 : decode b_RF_times 14 = .ok (.invokestatic 76, 3) := by decide +kernel
theorem d_RF_times_17 : decode b_RF_times 17 = .ok (.ifCond .ne 7, 3) := by decide +kernel
theorem d_RF_times_20 : decode b_RF_times 20 = .ok (.ldc2_w 79, 3) := by decide +kernel
theorem d_RF_times_23 : decode b_RF_times 23 = .ok (.lreturn, 1) := by decide +kernel
theorem d_RF_times_24 : decode b_RF_times 24 = .ok (.aload_n 3, 1) := by decide +kernel
theorem d_RF_times_25 : decode b_RF_times 25 = .ok (.iload_n 2, 1) := by decide +kernel
theorem d_RF_times_26 : decode b_RF_times 26 = .ok (.i2l, 1) := by decide +kernel
theorem d_RF_times_27 : decode b_RF_times 27 = .ok (.aload_n 3, 1) := by decide +kernel
theorem d_RF_times_28 : decode b_RF_times 28 = .ok (.getfield 81, 3) := by decide +kernel
theorem d_RF_times_31 : decode b_RF_times 31 = .ok (.lmul, 1) := by decide +kernel
theorem d_RF_times_32 : decode b_RF_times 32 = .ok (.invokevirtual 85, 3) := by decide +kernel
theorem d_RF_times_35 : decode b_RF_times 35 = .ok (.lreturn, 1) := by decide +kernel
theorem d_RF_along_0 : decode b_RF_along 0 = .ok (.aload_n 0, 1) := by decide +kernel
theorem d_RF_along_1 : decode b_RF_along 1 = .ok (.iload_n 1, 1) := by decide +kernel
theorem d_RF_along_2 : decode b_RF_along 2 = .ok (.invokevirtual 64, 3) := by decide +kernel
theorem d_RF_along_5 : decode b_RF_along 5 = .ok (.astore_n 2, 1) := by decide +kernel
theorem d_RF_along_6 : decode b_RF_along 6 = .ok (.aload_n 2, 1) := by decide +kernel
theorem d_RF_along_7 : decode b_RF_along 7 = .ok (.ifnonnull 7, 3) := by decide +kernel
theorem d_RF_along_10 : decode b_RF_along 10 = .ok (.iconst (-1), 1) := by decide +kernel
theorem d_RF_along_11 : decode b_RF_along 11 = .ok (.goto 16, 3) := by decide +kernel
theorem d_RF_along_14 : decode b_RF_along 14 = .ok (.aload_n 2, 1) := by decide +kernel
theorem d_RF_along_15 : decode b_RF_along 15 = .ok (.ldc2_w 89, 3) := by decide +kernel
theorem d_RF_along_18 : decode b_RF_along 18 = .ok (.aload_n 2, 1) := by decide +kernel
theorem d_RF_along_19 : decode b_RF_along 19 = .ok (.getfield 91, 3) := by decide +kernel
theorem d_RF_along_22 : decode b_RF_along 22 = .ok (.lmul, 1) := by decide +kernel
theorem d_RF_along_23 : decode b_RF_along 23 = .ok (.invokevirtual 85, 3) := by decide +kernel
theorem d_RF_along_26 : decode b_RF_along 26 = .ok (.l2i, 1) := by decide +kernel
theorem d_RF_along_27 : decode b_RF_along 27 = .ok (.ireturn, 1) := by decide +kernel
theorem d_RF_within_0 : decode b_RF_within 0 = .ok (.aload_n 0, 1) := by decide +kernel
theorem d_RF_within_1 : decode b_RF_within 1 = .ok (.getfield 57, 3) := by decide +kernel
theorem d_RF_within_4 : decode b_RF_within 4 = .ok (.ifnull 23, 3) := by decide +kernel
theorem d_RF_within_7 : decode b_RF_within 7 = .ok (.iload_n 1, 1) := by decide +kernel
theorem d_RF_within_8 : decode b_RF_within 8 = .ok (.iconst 0, 1) := by decide +kernel
theorem d_RF_within_9 : decode b_RF_within 9 = .ok (.ldc 75, 2) := by decide +kernel
theorem d_RF_within_11 : decode b_RF_within 11 = .ok (.invokestatic 76, 3) := by decide +kernel
theorem d_RF_within_14 : decode b_RF_within 14 = .ok (.ifCond .eq 13, 3) := by decide +kernel
theorem d_RF_within_17 : decode b_RF_within 17 = .ok (.iload_n 2, 1) := by decide +kernel
theorem d_RF_within_18 : decode b_RF_within 18 = .ok (.iconst 1, 1) := by decide +kernel
theorem d_RF_within_19 : decode b_RF_within 19 = .ok (.ldc 75, 2) := by decide +kernel
theorem d_RF_within_21 : decode b_RF_within 21 = .ok (.invokestatic 76, 3) := by decide +kernel
theorem d_RF_within_24 : decode b_RF_within 24 = .ok (.ifCond .ne 5, 3) := by decide +kernel
theorem d_RF_within_27 : decode b_RF_within 27 = .ok (.iconst (-1), 1) := by decide +kernel
theorem d_RF_within_28 : decode b_RF_within 28 = .ok (.ireturn, 1) := by decide +kernel
theorem d_RF_within_29 : decode b_RF_within 29 = .ok (.iconst 0, 1) := by decide +kernel
theorem d_RF_within_30 : decode b_RF_within 30 = .ok (.istore_n 3, 1) := by decide +kernel
theorem d_RF_within_31 : decode b_RF_within 31 = .ok (.iconst 0, 1) := by decide +kernel
theorem d_RF_within_32 : decode b_RF_within 32 = .ok (.istore 4, 2) := by decide +kernel
theorem d_RF_within_34 : decode b_RF_within 34 = .ok (.iload 4, 2) := by decide +kernel
theorem d_RF_within_36 : decode b_RF_within 36 = .ok (.aload_n 0, 1) := by decide +kernel
theorem d_RF_within_37 : decode b_RF_within 37 = .ok (.getfield 61, 3) := by decide +kernel
theorem d_RF_within_40 : decode b_RF_within 40 = .ok (.if_icmp .ge 37, 3) := by decide +kernel
theorem d_RF_within_43 : decode b_RF_within 43 = .ok (.aload_n 0, 1) := by decide +kernel
theorem d_RF_within_44 : decode b_RF_within 44 = .ok (.iload 4, 2) := by decide +kernel
theorem d_RF_within_46 : decode b_RF_within 46 = .ok (.invokevirtual 64, 3) := by decide +kernel
theorem d_RF_within_49 : decode b_RF_within 49 = .ok (.astore 5, 2) := by decide +kernel
theorem d_RF_within_51 : decode b_RF_within 51 = .ok (.aload 5, 2) := by decide +kernel
theorem d_RF_within_53 : decode b_RF_within 53 = .ok (.ifnull 18, 3) := by decide +kernel
theorem d_RF_within_56 : decode b_RF_within 56 = .ok (.aload 5, 2) := by decide +kernel
theorem d_RF_within_58 : decode b_RF_within 58 = .ok (.iload_n 1, 1) := by decide +kernel
theorem d_RF_within_59 : decode b_RF_within 59 = .ok (.i2l, 1) := by decide +kernel
theorem d_RF_within_60 : decode b_RF_within 60 = .ok (.iload_n 2, 1) := by decide +kernel
theorem d_RF_within_61 : decode b_RF_within 61 = .ok (.i2l, 1) := by decide +kernel
theorem d_RF_within_62 : decode b_RF_within 62 = .ok (.invokevirtual 94, 3) := by decide +kernel
theorem d_RF_within_65 : decode b_RF_within 65 = .ok (.ifCond .eq 6, 3) := by decide +kernel
theorem d_RF_within_68 : decode b_RF_within 68 = .ok (.iinc 3 1, 3) := by decide +kernel
theorem d_RF_within_71 : decode b_RF_within 71 = .ok (.iinc 4 1, 3) := by decide +kernel
theorem d_RF_within_74 : decode b_RF_within 74 = .ok (.goto (-40), 3) := by decide +kernel
theorem d_RF_within_77 : decode b_RF_within 77 = .ok (.iload_n 3, 1) := by decide +kernel
theorem d_RF_within_78 : decode b_RF_within 78 = .ok (.ireturn, 1) := by decide +kernel
theorem d_RF_on_0 : decode b_RF_on 0 = .ok (.iload_n 1, 1) := by decide +kernel
theorem d_RF_on_1 : decode b_RF_on 1 = .ok (.iload_n 2, 1) := by decide +kernel
theorem d_RF_on_2 : decode b_RF_on 2 = .ok (.sipush 4000, 3) := by decide +kernel
theorem d_RF_on_5 : decode b_RF_on 5 = .ok (.invokestatic 21, 3) := by decide +kernel
theorem d_RF_on_8 : decode b_RF_on 8 = .ok (.ifCond .ne 5, 3) := by decide +kernel
theorem d_RF_on_11 : decode b_RF_on 11 = .ok (.iconst (-1), 1) := by decide +kernel
theorem d_RF_on_12 : decode b_RF_on 12 = .ok (.ireturn, 1) := by decide +kernel
theorem d_RF_on_13 : decode b_RF_on 13 = .ok (.iconst 0, 1) := by decide +kernel
theorem d_RF_on_14 : decode b_RF_on 14 = .ok (.istore_n 3, 1) := by decide +kernel
theorem d_RF_on_15 : decode b_RF_on 15 = .ok (.iload_n 3, 1) := by decide +kernel
theorem d_RF_on_16 : decode b_RF_on 16 = .ok (.aload_n 0, 1) := by decide +kernel
theorem d_RF_on_17 : decode b_RF_on 17 = .ok (.getfield 11, 3) := by decide +kernel
theorem d_RF_on_20 : decode b_RF_on 20 = .ok (.arraylength, 1) := by decide +kernel
theorem d_RF_on_21 : decode b_RF_on 21 = .ok (.if_icmp .ge 34, 3) := by decide +kernel
theorem d_RF_on_24 : decode b_RF_on 24 = .ok (.aload_n 0, 1) := by decide +kernel
theorem d_RF_on_25 : decode b_RF_on 25 = .ok (.getfield 11, 3) := by decide +kernel
theorem d_RF_on_28 : decode b_RF_on 28 = .ok (.iload_n 3, 1) := by decide +kernel
theorem d_RF_on_29 : decode b_RF_on 29 = .ok (.aaload, 1) := by decide +kernel
theorem d_RF_on_30 : decode b_RF_on 30 = .ok (.astore 4, 2) := by decide +kernel
theorem d_RF_on_32 : decode b_RF_on 32 = .ok (.aload 4, 2) := by decide +kernel
theorem d_RF_on_34 : decode b_RF_on 34 = .ok (.ifnull 15, 3) := by decide +kernel
theorem d_RF_on_37 : decode b_RF_on 37 = .ok (.aload 4, 2) := by decide +kernel
theorem d_RF_on_39 : decode b_RF_on 39 = .ok (.iload_n 1, 1) := by decide +kernel
theorem d_RF_on_40 : decode b_RF_on 40 = .ok (.iload_n 2, 1) := by decide +kernel
theorem d_RF_on_41 : decode b_RF_on 41 = .ok (.invokevirtual 98, 3) := by decide +kernel
theorem d_RF_on_44 : decode b_RF_on 44 = .ok (.ifCond .eq 5, 3) := by decide +kernel
theorem d_RF_on_47 : decode b_RF_on 47 = .ok (.iload_n 3, 1) := by decide +kernel
theorem d_RF_on_48 : decode b_RF_on 48 = .ok (.ireturn, 1) := by decide +kernel
theorem d_RF_on_49 : decode b_RF_on 49 = .ok (.iinc 3 1, 3) := by decide +kernel
theorem d_RF_on_52 : decode b_RF_on 52 = .ok (.goto (-37), 3) := by decide +kernel
theorem d_RF_on_55 : decode b_RF_on 55 = .ok (.iconst (-1), 1) := by decide +kernel
theorem d_RF_on_56 : decode b_RF_on 56 = .ok (.ireturn, 1) := by decide +kernel
theorem d_RF_of_0 : decode b_RF_of 0 = .ok (.aload_n 0, 1) := by decide +kernel
theorem d_RF_of_1 : decode b_RF_of 1 = .ok (.iload_n 1, 1) := by decide +kernel
theorem d_RF_of_2 : decode b_RF_of 2 = .ok (.invokevirtual 47, 3) := by decide +kernel
theorem d_RF_of_5 : decode b_RF_of 5 = .ok (.astore_n 3, 1) := by decide +kernel
theorem d_RF_of_6 : decode b_RF_of 6 = .ok (.aload_n 3, 1) := by decide +kernel
theorem d_RF_of_7 : decode b_RF_of 7 = .ok (.ifnonnull 6, 3) := by decide +kernel
theorem d_RF_of_10 : decode b_RF_of 10 = .ok (.ldc 102, 2) := by decide +kernel
theorem d_RF_of_12 : decode b_RF_of 12 = .ok (.ireturn, 1) := by decide +kernel
theorem d_RF_of_13 : decode b_RF_of 13 = .ok (.iload_n 2, 1) := by decide +kernel
theorem d_RF_of_14 : decode b_RF_of 14 = .ok (.tableswitch 50 0 3 #[30, 35, 40, 45], 30) := by decide +kernel
theorem d_RF_of_44 : decode b_RF_of 44 = .ok (.aload_n 3, 1) := by decide +kernel
theorem d_RF_of_45 : decode b_RF_of 45 = .ok (.getfield 103, 3) := by decide +kernel
theorem d_RF_of_48 : decode b_RF_of 48 = .ok (.ireturn, 1) := by decide +kernel
theorem d_RF_of_49 : decode b_RF_of 49 = .ok (.aload_n 3, 1) := by decide +kernel
theorem d_RF_of_50 : decode b_RF_of 50 = .ok (.getfield 106, 3) := by decide +kernel
theorem d_RF_of_53 : decode b_RF_of 53 = .ok (.ireturn, 1) := by decide +kernel
theorem d_RF_of_54 : decode b_RF_of 54 = .ok (.aload_n 3, 1) := by decide +kernel
theorem d_RF_of_55 : decode b_RF_of 55 = .ok (.getfield 109, 3) := by decide +kernel
theorem d_RF_of_58 : decode b_RF_of 58 = .ok (.ireturn, 1) := by decide +kernel
theorem d_RF_of_59 : decode b_RF_of 59 = .ok (.aload_n 3, 1) := by decide +kernel
theorem d_RF_of_60 : decode b_RF_of 60 = .ok (.getfield 112, 3) := by decide +kernel
theorem d_RF_of_63 : decode b_RF_of 63 = .ok (.ireturn, 1) := by decide +kernel
theorem d_RF_of_64 : decode b_RF_of 64 = .ok (.ldc 102, 2) := by decide +kernel
theorem d_RF_of_66 : decode b_RF_of 66 = .ok (.ireturn, 1) := by decide +kernel
theorem d_RF_look_0 : decode b_RF_look 0 = .ok (.iload_n 1, 1) := by decide +kernel
theorem d_RF_look_1 : decode b_RF_look 1 = .ok (.tableswitch 50 0 2 #[27, 32, 37], 27) := by decide +kernel
theorem d_RF_look_28 : decode b_RF_look 28 = .ok (.aload_n 0, 1) := by decide +kernel
theorem d_RF_look_29 : decode b_RF_look 29 = .ok (.getfield 40, 3) := by decide +kernel
theorem d_RF_look_32 : decode b_RF_look 32 = .ok (.ireturn, 1) := by decide +kernel
theorem d_RF_look_33 : decode b_RF_look 33 = .ok (.aload_n 0, 1) := by decide +kernel
theorem d_RF_look_34 : decode b_RF_look 34 = .ok (.invokevirtual 25, 3) := by decide +kernel
theorem d_RF_look_37 : decode b_RF_look 37 = .ok (.ireturn, 1) := by decide +kernel
theorem d_RF_look_38 : decode b_RF_look 38 = .ok (.aload_n 0, 1) := by decide +kernel
theorem d_RF_look_39 : decode b_RF_look 39 = .ok (.getfield 57, 3) := by decide +kernel
theorem d_RF_look_42 : decode b_RF_look 42 = .ok (.ifnonnull 7, 3) := by decide +kernel
theorem d_RF_look_45 : decode b_RF_look 45 = .ok (.iconst 0, 1) := by decide +kernel
theorem d_RF_look_46 : decode b_RF_look 46 = .ok (.goto 4, 3) := by decide +kernel
theorem d_RF_look_49 : decode b_RF_look 49 = .ok (.iconst 1, 1) := by decide +kernel
theorem d_RF_look_50 : decode b_RF_look 50 = .ok (.ireturn, 1) := by decide +kernel
theorem d_RF_look_51 : decode b_RF_look 51 = .ok (.iconst (-1), 1) := by decide +kernel
theorem d_RF_look_52 : decode b_RF_look 52 = .ok (.ireturn, 1) := by decide +kernel
theorem d_RF_leastFreeNumber_0 : decode b_RF_leastFreeNumber 0 = .ok (.iconst 0, 1) := by decide +kernel
theorem d_RF_leastFreeNumber_1 : decode b_RF_leastFreeNumber 1 = .ok (.istore_n 1, 1) := by decide +kernel
theorem d_RF_leastFreeNumber_2 : decode b_RF_leastFreeNumber 2 = .ok (.iload_n 1, 1) := by decide +kernel
theorem d_RF_leastFreeNumber_3 : decode b_RF_leastFreeNumber 3 = .ok (.aload_n 0, 1) := by decide +kernel
theorem d_RF_leastFreeNumber_4 : decode b_RF_leastFreeNumber 4 = .ok (.getfield 11, 3) := by decide +kernel
theorem d_RF_leastFreeNumber_7 : decode b_RF_leastFreeNumber 7 = .ok (.arraylength, 1) := by decide +kernel
theorem d_RF_leastFreeNumber_8 : decode b_RF_leastFreeNumber 8 = .ok (.if_icmp .ge 20, 3) := by decide +kernel
theorem d_RF_leastFreeNumber_11 : decode b_RF_leastFreeNumber 11 = .ok (.aload_n 0, 1) := by decide +kernel
theorem d_RF_leastFreeNumber_12 : decode b_RF_leastFreeNumber 12 = .ok (.getfield 11, 3) := by decide +kernel
theorem d_RF_leastFreeNumber_15 : decode b_RF_leastFreeNumber 15 = .ok (.iload_n 1, 1) := by decide +kernel
theorem d_RF_leastFreeNumber_16 : decode b_RF_leastFreeNumber 16 = .ok (.aaload, 1) := by decide +kernel
theorem d_RF_leastFreeNumber_17 : decode b_RF_leastFreeNumber 17 = .ok (.ifnonnull 5, 3) := by decide +kernel
theorem d_RF_leastFreeNumber_20 : decode b_RF_leastFreeNumber 20 = .ok (.iload_n 1, 1) := by decide +kernel
theorem d_RF_leastFreeNumber_21 : decode b_RF_leastFreeNumber 21 = .ok (.ireturn, 1) := by decide +kernel
theorem d_RF_leastFreeNumber_22 : decode b_RF_leastFreeNumber 22 = .ok (.iinc 1 1, 3) := by decide +kernel
theorem d_RF_leastFreeNumber_25 : decode b_RF_leastFreeNumber 25 = .ok (.goto (-23), 3) := by decide +kernel
theorem d_RF_leastFreeNumber_28 : decode b_RF_leastFreeNumber 28 = .ok (.iconst (-1), 1) := by decide +kernel
theorem d_RF_leastFreeNumber_29 : decode b_RF_leastFreeNumber 29 = .ok (.ireturn, 1) := by decide +kernel
theorem d_RF_wallNumbered_0 : decode b_RF_wallNumbered 0 = .ok (.iload_n 1, 1) := by decide +kernel
theorem d_RF_wallNumbered_1 : decode b_RF_wallNumbered 1 = .ok (.invokestatic 29, 3) := by decide +kernel
theorem d_RF_wallNumbered_4 : decode b_RF_wallNumbered 4 = .ok (.ifCond .eq 12, 3) := by decide +kernel
theorem d_RF_wallNumbered_7 : decode b_RF_wallNumbered 7 = .ok (.aload_n 0, 1) := by decide +kernel
theorem d_RF_wallNumbered_8 : decode b_RF_wallNumbered 8 = .ok (.getfield 11, 3) := by decide +kernel
theorem d_RF_wallNumbered_11 : decode b_RF_wallNumbered 11 = .ok (.iload_n 1, 1) := by decide +kernel
theorem d_RF_wallNumbered_12 : decode b_RF_wallNumbered 12 = .ok (.aaload, 1) := by decide +kernel
theorem d_RF_wallNumbered_13 : decode b_RF_wallNumbered 13 = .ok (.goto 4, 3) := by decide +kernel
theorem d_RF_wallNumbered_16 : decode b_RF_wallNumbered 16 = .ok (.aconst_null, 1) := by decide +kernel
theorem d_RF_wallNumbered_17 : decode b_RF_wallNumbered 17 = .ok (.areturn, 1) := by decide +kernel
theorem d_RF_clashes_0 : decode b_RF_clashes 0 = .ok (.iconst 0, 1) := by decide +kernel
theorem d_RF_clashes_1 : decode b_RF_clashes 1 = .ok (.istore_n 2, 1) := by decide +kernel
theorem d_RF_clashes_2 : decode b_RF_clashes 2 = .ok (.iload_n 2, 1) := by decide +kernel
theorem d_RF_clashes_3 : decode b_RF_clashes 3 = .ok (.aload_n 0, 1) := by decide +kernel
theorem d_RF_clashes_4 : decode b_RF_clashes 4 = .ok (.getfield 11, 3) := by decide +kernel
theorem d_RF_clashes_7 : decode b_RF_clashes 7 = .ok (.arraylength, 1) := by decide +kernel
theorem d_RF_clashes_8 : decode b_RF_clashes 8 = .ok (.if_icmp .ge 30, 3) := by decide +kernel
theorem d_RF_clashes_11 : decode b_RF_clashes 11 = .ok (.aload_n 0, 1) := by decide +kernel
theorem d_RF_clashes_12 : decode b_RF_clashes 12 = .ok (.getfield 11, 3) := by decide +kernel
theorem d_RF_clashes_15 : decode b_RF_clashes 15 = .ok (.iload_n 2, 1) := by decide +kernel
theorem d_RF_clashes_16 : decode b_RF_clashes 16 = .ok (.aaload, 1) := by decide +kernel
theorem d_RF_clashes_17 : decode b_RF_clashes 17 = .ok (.astore_n 3, 1) := by decide +kernel
theorem d_RF_clashes_18 : decode b_RF_clashes 18 = .ok (.aload_n 3, 1) := by decide +kernel
theorem d_RF_clashes_19 : decode b_RF_clashes 19 = .ok (.ifnull 13, 3) := by decide +kernel
theorem d_RF_clashes_22 : decode b_RF_clashes 22 = .ok (.aload_n 1, 1) := by decide +kernel
theorem d_RF_clashes_23 : decode b_RF_clashes 23 = .ok (.aload_n 3, 1) := by decide +kernel
theorem d_RF_clashes_24 : decode b_RF_clashes 24 = .ok (.invokevirtual 115, 3) := by decide +kernel
theorem d_RF_clashes_27 : decode b_RF_clashes 27 = .ok (.ifCond .eq 5, 3) := by decide +kernel
theorem d_RF_clashes_30 : decode b_RF_clashes 30 = .ok (.iconst 1, 1) := by decide +kernel
theorem d_RF_clashes_31 : decode b_RF_clashes 31 = .ok (.ireturn, 1) := by decide +kernel
theorem d_RF_clashes_32 : decode b_RF_clashes 32 = .ok (.iinc 2 1, 3) := by decide +kernel
theorem d_RF_clashes_35 : decode b_RF_clashes 35 = .ok (.goto (-33), 3) := by decide +kernel
theorem d_RF_clashes_38 : decode b_RF_clashes 38 = .ok (.iconst 0, 1) := by decide +kernel
theorem d_RF_clashes_39 : decode b_RF_clashes 39 = .ok (.ireturn, 1) := by decide +kernel
theorem d_RF_meetingAt_0 : decode b_RF_meetingAt 0 = .ok (.iload_n 1, 1) := by decide +kernel
theorem d_RF_meetingAt_1 : decode b_RF_meetingAt 1 = .ok (.ifCond .lt 29, 3) := by decide +kernel
theorem d_RF_meetingAt_4 : decode b_RF_meetingAt 4 = .ok (.iload_n 1, 1) := by decide +kernel
theorem d_RF_meetingAt_5 : decode b_RF_meetingAt 5 = .ok (.aload_n 0, 1) := by decide +kernel
theorem d_RF_meetingAt_6 : decode b_RF_meetingAt 6 = .ok (.getfield 61, 3) := by decide +kernel
theorem d_RF_meetingAt_9 : decode b_RF_meetingAt 9 = .ok (.if_icmp .ge 21, 3) := by decide +kernel
theorem d_RF_meetingAt_12 : decode b_RF_meetingAt 12 = .ok (.iload_n 1, 1) := by decide +kernel
theorem d_RF_meetingAt_13 : decode b_RF_meetingAt 13 = .ok (.aload_n 0, 1) := by decide +kernel
theorem d_RF_meetingAt_14 : decode b_RF_meetingAt 14 = .ok (.getfield 17, 3) := by decide +kernel
theorem d_RF_meetingAt_17 : decode b_RF_meetingAt 17 = .ok (.arraylength, 1) := by decide +kernel
theorem d_RF_meetingAt_18 : decode b_RF_meetingAt 18 = .ok (.if_icmp .ge 12, 3) := by decide +kernel
theorem d_RF_meetingAt_21 : decode b_RF_meetingAt 21 = .ok (.aload_n 0, 1) := by decide +kernel
theorem d_RF_meetingAt_22 : decode b_RF_meetingAt 22 = .ok (.getfield 17, 3) := by decide +kernel
theorem d_RF_meetingAt_25 : decode b_RF_meetingAt 25 = .ok (.iload_n 1, 1) := by decide +kernel
theorem d_RF_meetingAt_26 : decode b_RF_meetingAt 26 = .ok (.aaload, 1) := by decide +kernel
theorem d_RF_meetingAt_27 : decode b_RF_meetingAt 27 = .ok (.goto 4, 3) := by decide +kernel
theorem d_RF_meetingAt_30 : decode b_RF_meetingAt 30 = .ok (.aconst_null, 1) := by decide +kernel
theorem d_RF_meetingAt_31 : decode b_RF_meetingAt 31 = .ok (.areturn, 1) := by decide +kernel
theorem d_RF_meetAgain_0 : decode b_RF_meetAgain 0 = .ok (.aload_n 0, 1) := by decide +kernel
theorem d_RF_meetAgain_1 : decode b_RF_meetAgain 1 = .ok (.iconst 0, 1) := by decide +kernel
theorem d_RF_meetAgain_2 : decode b_RF_meetAgain 2 = .ok (.putfield 61, 3) := by decide +kernel
theorem d_RF_meetAgain_5 : decode b_RF_meetAgain 5 = .ok (.aload_n 0, 1) := by decide +kernel
theorem d_RF_meetAgain_6 : decode b_RF_meetAgain 6 = .ok (.getfield 57, 3) := by decide +kernel
theorem d_RF_meetAgain_9 : decode b_RF_meetAgain 9 = .ok (.astore_n 1, 1) := by decide +kernel
theorem d_RF_meetAgain_10 : decode b_RF_meetAgain 10 = .ok (.aload_n 1, 1) := by decide +kernel
theorem d_RF_meetAgain_11 : decode b_RF_meetAgain 11 = .ok (.ifnonnull 4, 3) := by decide +kernel
theorem d_RF_meetAgain_14 : decode b_RF_meetAgain 14 = .ok (.return_, 1) := by decide +kernel
theorem d_RF_meetAgain_15 : decode b_RF_meetAgain 15 = .ok (.iconst 0, 1) := by decide +kernel
theorem d_RF_meetAgain_16 : decode b_RF_meetAgain 16 = .ok (.istore_n 2, 1) := by decide +kernel
theorem d_RF_meetAgain_17 : decode b_RF_meetAgain 17 = .ok (.iload_n 2, 1) := by decide +kernel
theorem d_RF_meetAgain_18 : decode b_RF_meetAgain 18 = .ok (.aload_n 0, 1) := by decide +kernel
theorem d_RF_meetAgain_19 : decode b_RF_meetAgain 19 = .ok (.getfield 11, 3) := by decide +kernel
theorem d_RF_meetAgain_22 : decode b_RF_meetAgain 22 = .ok (.arraylength, 1) := by decide +kernel
theorem d_RF_meetAgain_23 : decode b_RF_meetAgain 23 = .ok (.if_icmp .ge 39, 3) := by decide +kernel
theorem d_RF_meetAgain_26 : decode b_RF_meetAgain 26 = .ok (.aload_n 0, 1) := by decide +kernel
theorem d_RF_meetAgain_27 : decode b_RF_meetAgain 27 = .ok (.getfield 11, 3) := by decide +kernel
theorem d_RF_meetAgain_30 : decode b_RF_meetAgain 30 = .ok (.iload_n 2, 1) := by decide +kernel
theorem d_RF_meetAgain_31 : decode b_RF_meetAgain 31 = .ok (.aaload, 1) := by decide +kernel
theorem d_RF_meetAgain_32 : decode b_RF_meetAgain 32 = .ok (.astore_n 3, 1) := by decide +kernel
theorem d_RF_meetAgain_33 : decode b_RF_meetAgain 33 = .ok (.aload_n 3, 1) := by decide +kernel
theorem d_RF_meetAgain_34 : decode b_RF_meetAgain 34 = .ok (.ifnull 22, 3) := by decide +kernel
theorem d_RF_meetAgain_37 : decode b_RF_meetAgain 37 = .ok (.aload_n 0, 1) := by decide +kernel
theorem d_RF_meetAgain_38 : decode b_RF_meetAgain 38 = .ok (.getfield 61, 3) := by decide +kernel
theorem d_RF_meetAgain_41 : decode b_RF_meetAgain 41 = .ok (.aload_n 0, 1) := by decide +kernel
theorem d_RF_meetAgain_42 : decode b_RF_meetAgain 42 = .ok (.getfield 17, 3) := by decide +kernel
theorem d_RF_meetAgain_45 : decode b_RF_meetAgain 45 = .ok (.arraylength, 1) := by decide +kernel
theorem d_RF_meetAgain_46 : decode b_RF_meetAgain 46 = .ok (.if_icmp .ge 10, 3) := by decide +kernel
theorem d_RF_meetAgain_49 : decode b_RF_meetAgain 49 = .ok (.aload_n 0, 1) := by decide +kernel
theorem d_RF_meetAgain_50 : decode b_RF_meetAgain 50 = .ok (.iload_n 2, 1) := by decide +kernel
theorem d_RF_meetAgain_51 : decode b_RF_meetAgain 51 = .ok (.aload_n 3, 1) := by decide +kernel
theorem d_RF_meetAgain_52 : decode b_RF_meetAgain 52 = .ok (.aload_n 1, 1) := by decide +kernel
theorem d_RF_meetAgain_53 : decode b_RF_meetAgain 53 = .ok (.invokevirtual 118, 3) := by decide +kernel
theorem d_RF_meetAgain_56 : decode b_RF_meetAgain 56 = .ok (.iinc 2 1, 3) := by decide +kernel
theorem d_RF_meetAgain_59 : decode b_RF_meetAgain 59 = .ok (.goto (-42), 3) := by decide +kernel
theorem d_RF_meetAgain_62 : decode b_RF_meetAgain 62 = .ok (.return_, 1) := by decide +kernel
theorem d_RF_meetOne_0 : decode b_RF_meetOne 0 = .ok (.aload_n 0, 1) := by decide +kernel
theorem d_RF_meetOne_1 : decode b_RF_meetOne 1 = .ok (.getfield 17, 3) := by decide +kernel
theorem d_RF_meetOne_4 : decode b_RF_meetOne 4 = .ok (.aload_n 0, 1) := by decide +kernel
theorem d_RF_meetOne_5 : decode b_RF_meetOne 5 = .ok (.getfield 61, 3) := by decide +kernel
theorem d_RF_meetOne_8 : decode b_RF_meetOne 8 = .ok (.aaload, 1) := by decide +kernel
theorem d_RF_meetOne_9 : decode b_RF_meetOne 9 = .ok (.astore 4, 2) := by decide +kernel
theorem d_RF_meetOne_11 : decode b_RF_meetOne 11 = .ok (.aload 4, 2) := by decide +kernel
theorem d_RF_meetOne_13 : decode b_RF_meetOne 13 = .ok (.ifnonnull 23, 3) := by decide +kernel
theorem d_RF_meetOne_16 : decode b_RF_meetOne 16 = .ok (.new 15, 3) := by decide +kernel
theorem d_RF_meetOne_19 : decode b_RF_meetOne 19 = .ok (.dup, 1) := by decide +kernel
theorem d_RF_meetOne_20 : decode b_RF_meetOne 20 = .ok (.invokespecial 122, 3) := by decide +kernel
theorem d_RF_meetOne_23 : decode b_RF_meetOne 23 = .ok (.astore 4, 2) := by decide +kernel
theorem d_RF_meetOne_25 : decode b_RF_meetOne 25 = .ok (.aload_n 0, 1) := by decide +kernel
theorem d_RF_meetOne_26 : decode b_RF_meetOne 26 = .ok (.getfield 17, 3) := by decide +kernel
theorem d_RF_meetOne_29 : decode b_RF_meetOne 29 = .ok (.aload_n 0, 1) := by decide +kernel
theorem d_RF_meetOne_30 : decode b_RF_meetOne 30 = .ok (.getfield 61, 3) := by decide +kernel
theorem d_RF_meetOne_33 : decode b_RF_meetOne 33 = .ok (.aload 4, 2) := by decide +kernel
theorem d_RF_meetOne_35 : decode b_RF_meetOne 35 = .ok (.aastore, 1) := by decide +kernel
theorem d_RF_meetOne_36 : decode b_RF_meetOne 36 = .ok (.aload 4, 2) := by decide +kernel
theorem d_RF_meetOne_38 : decode b_RF_meetOne 38 = .ok (.iload_n 1, 1) := by decide +kernel
theorem d_RF_meetOne_39 : decode b_RF_meetOne 39 = .ok (.aload_n 2, 1) := by decide +kernel
theorem d_RF_meetOne_40 : decode b_RF_meetOne 40 = .ok (.aload_n 3, 1) := by decide +kernel
theorem d_RF_meetOne_41 : decode b_RF_meetOne 41 = .ok (.invokevirtual 123, 3) := by decide +kernel
theorem d_RF_meetOne_44 : decode b_RF_meetOne 44 = .ok (.ifCond .eq 9, 3) := by decide +kernel
theorem d_RF_meetOne_47 : decode b_RF_meetOne 47 = .ok (.aload_n 0, 1) := by decide +kernel
theorem d_RF_meetOne_48 : decode b_RF_meetOne 48 = .ok (.aload 4, 2) := by decide +kernel
theorem d_RF_meetOne_50 : decode b_RF_meetOne 50 = .ok (.invokevirtual 127, 3) := by decide +kernel
theorem d_RF_meetOne_53 : decode b_RF_meetOne 53 = .ok (.return_, 1) := by decide +kernel
theorem d_RF_sortIn_0 : decode b_RF_sortIn 0 = .ok (.aload_n 0, 1) := by decide +kernel
theorem d_RF_sortIn_1 : decode b_RF_sortIn 1 = .ok (.getfield 61, 3) := by decide +kernel
theorem d_RF_sortIn_4 : decode b_RF_sortIn 4 = .ok (.istore_n 2, 1) := by decide +kernel
theorem d_RF_sortIn_5 : decode b_RF_sortIn 5 = .ok (.iload_n 2, 1) := by decide +kernel
theorem d_RF_sortIn_6 : decode b_RF_sortIn 6 = .ok (.ifCond .le 40, 3) := by decide +kernel
theorem d_RF_sortIn_9 : decode b_RF_sortIn 9 = .ok (.aload_n 0, 1) := by decide +kernel
theorem d_RF_sortIn_10 : decode b_RF_sortIn 10 = .ok (.getfield 17, 3) := by decide +kernel
theorem d_RF_sortIn_13 : decode b_RF_sortIn 13 = .ok (.iload_n 2, 1) := by decide +kernel
theorem d_RF_sortIn_14 : decode b_RF_sortIn 14 = .ok (.iconst 1, 1) := by decide +kernel
theorem d_RF_sortIn_15 : decode b_RF_sortIn 15 = .ok (.isub, 1) := by decide +kernel
theorem d_RF_sortIn_16 : decode b_RF_sortIn 16 = .ok (.aaload, 1) := by decide +kernel
theorem d_RF_sortIn_17 : decode b_RF_sortIn 17 = .ok (.astore_n 3, 1) := by decide +kernel
theorem d_RF_sortIn_18 : decode b_RF_sortIn 18 = .ok (.aload_n 3, 1) := by decide +kernel
theorem d_RF_sortIn_19 : decode b_RF_sortIn 19 = .ok (.ifnull 27, 3) := by decide +kernel
theorem d_RF_sortIn_22 : decode b_RF_sortIn 22 = .ok (.aload_n 1, 1) := by decide +kernel
theorem d_RF_sortIn_23 : decode b_RF_sortIn 23 = .ok (.aload_n 3, 1) := by decide +kernel
theorem d_RF_sortIn_24 : decode b_RF_sortIn 24 = .ok (.invokevirtual 131, 3) := by decide +kernel
theorem d_RF_sortIn_27 : decode b_RF_sortIn 27 = .ok (.ifCond .ne 6, 3) := by decide +kernel
theorem d_RF_sortIn_30 : decode b_RF_sortIn 30 = .ok (.goto 16, 3) := by decide +kernel
theorem d_RF_sortIn_33 : decode b_RF_sortIn 33 = .ok (.aload_n 0, 1) := by decide +kernel
theorem d_RF_sortIn_34 : decode b_RF_sortIn 34 = .ok (.getfield 17, 3) := by decide +kernel
theorem d_RF_sortIn_37 : decode b_RF_sortIn 37 = .ok (.iload_n 2, 1) := by decide +kernel
theorem d_RF_sortIn_38 : decode b_RF_sortIn 38 = .ok (.aload_n 3, 1) := by decide +kernel
theorem d_RF_sortIn_39 : decode b_RF_sortIn 39 = .ok (.aastore, 1) := by decide +kernel
theorem d_RF_sortIn_40 : decode b_RF_sortIn 40 = .ok (.iinc 2 (-1), 3) := by decide +kernel
theorem d_RF_sortIn_43 : decode b_RF_sortIn 43 = .ok (.goto (-38), 3) := by decide +kernel
theorem d_RF_sortIn_46 : decode b_RF_sortIn 46 = .ok (.aload_n 0, 1) := by decide +kernel
theorem d_RF_sortIn_47 : decode b_RF_sortIn 47 = .ok (.getfield 17, 3) := by decide +kernel
theorem d_RF_sortIn_50 : decode b_RF_sortIn 50 = .ok (.iload_n 2, 1) := by decide +kernel
theorem d_RF_sortIn_51 : decode b_RF_sortIn 51 = .ok (.aload_n 1, 1) := by decide +kernel
theorem d_RF_sortIn_52 : decode b_RF_sortIn 52 = .ok (.aastore, 1) := by decide +kernel
theorem d_RF_sortIn_53 : decode b_RF_sortIn 53 = .ok (.aload_n 0, 1) := by decide +kernel
theorem d_RF_sortIn_54 : decode b_RF_sortIn 54 = .ok (.dup, 1) := by decide +kernel
theorem d_RF_sortIn_55 : decode b_RF_sortIn 55 = .ok (.getfield 61, 3) := by decide +kernel
theorem d_RF_sortIn_58 : decode b_RF_sortIn 58 = .ok (.iconst 1, 1) := by decide +kernel
theorem d_RF_sortIn_59 : decode b_RF_sortIn 59 = .ok (.iadd, 1) := by decide +kernel
theorem d_RF_sortIn_60 : decode b_RF_sortIn 60 = .ok (.putfield 61, 3) := by decide +kernel
theorem d_RF_sortIn_63 : decode b_RF_sortIn 63 = .ok (.return_, 1) := by decide +kernel
theorem d_RF_isNumber_0 : decode b_RF_isNumber 0 = .ok (.iload_n 0, 1) := by decide +kernel
theorem d_RF_isNumber_1 : decode b_RF_isNumber 1 = .ok (.iconst 0, 1) := by decide +kernel
theorem d_RF_isNumber_2 : decode b_RF_isNumber 2 = .ok (.bipush 63, 2) := by decide +kernel
theorem d_RF_isNumber_4 : decode b_RF_isNumber 4 = .ok (.invokestatic 76, 3) := by decide +kernel
theorem d_RF_isNumber_7 : decode b_RF_isNumber 7 = .ok (.ireturn, 1) := by decide +kernel
theorem d_RF_isPlace_0 : decode b_RF_isPlace 0 = .ok (.iload_n 0, 1) := by decide +kernel
theorem d_RF_isPlace_1 : decode b_RF_isPlace 1 = .ok (.iload_n 2, 1) := by decide +kernel
theorem d_RF_isPlace_2 : decode b_RF_isPlace 2 = .ok (.ineg, 1) := by decide +kernel
theorem d_RF_isPlace_3 : decode b_RF_isPlace 3 = .ok (.iload_n 2, 1) := by decide +kernel
theorem d_RF_isPlace_4 : decode b_RF_isPlace 4 = .ok (.invokestatic 76, 3) := by decide +kernel
theorem d_RF_isPlace_7 : decode b_RF_isPlace 7 = .ok (.ifCond .eq 17, 3) := by decide +kernel
theorem d_RF_isPlace_10 : decode b_RF_isPlace 10 = .ok (.iload_n 1, 1) := by decide +kernel
theorem d_RF_isPlace_11 : decode b_RF_isPlace 11 = .ok (.iload_n 2, 1) := by decide +kernel
theorem d_RF_isPlace_12 : decode b_RF_isPlace 12 = .ok (.ineg, 1) := by decide +kernel
theorem d_RF_isPlace_13 : decode b_RF_isPlace 13 = .ok (.iload_n 2, 1) := by decide +kernel
theorem d_RF_isPlace_14 : decode b_RF_isPlace 14 = .ok (.invokestatic 76, 3) := by decide +kernel
theorem d_RF_isPlace_17 : decode b_RF_isPlace 17 = .ok (.ifCond .eq 7, 3) := by decide +kernel
theorem d_RF_isPlace_20 : decode b_RF_isPlace 20 = .ok (.iconst 1, 1) := by decide +kernel
theorem d_RF_isPlace_21 : decode b_RF_isPlace 21 = .ok (.goto 4, 3) := by decide +kernel
theorem d_RF_isPlace_24 : decode b_RF_isPlace 24 = .ok (.iconst 0, 1) := by decide +kernel
theorem d_RF_isPlace_25 : decode b_RF_isPlace 25 = .ok (.ireturn, 1) := by decide +kernel
theorem d_RF_isBetween_0 : decode b_RF_isBetween 0 = .ok (.iload_n 0, 1) := by decide +kernel
theorem d_RF_isBetween_1 : decode b_RF_isBetween 1 = .ok (.iload_n 1, 1) := by decide +kernel
theorem d_RF_isBetween_2 : decode b_RF_isBetween 2 = .ok (.if_icmp .lt 12, 3) := by decide +kernel
theorem d_RF_isBetween_5 : decode b_RF_isBetween 5 = .ok (.iload_n 0, 1) := by decide +kernel
theorem d_RF_isBetween_6 : decode b_RF_isBetween 6 = .ok (.iload_n 2, 1) := by decide +kernel
theorem d_RF_isBetween_7 : decode b_RF_isBetween 7 = .ok (.if_icmp .gt 7, 3) := by decide +kernel
theorem d_RF_isBetween_10 : decode b_RF_isBetween 10 = .ok (.iconst 1, 1) := by decide +kernel
theorem d_RF_isBetween_11 : decode b_RF_isBetween 11 = .ok (.goto 4, 3) := by decide +kernel
theorem d_RF_isBetween_14 : decode b_RF_isBetween 14 = .ok (.iconst 0, 1) := by decide +kernel
theorem d_RF_isBetween_15 : decode b_RF_isBetween 15 = .ok (.ireturn, 1) := by decide +kernel
theorem d_RF_cross_0 : decode b_RF_cross 0 = .ok (.lload_n 0, 1) := by decide +kernel
theorem d_RF_cross_1 : decode b_RF_cross 1 = .ok (.lload 6, 2) := by decide +kernel
theorem d_RF_cross_3 : decode b_RF_cross 3 = .ok (.lmul, 1) := by decide +kernel
theorem d_RF_cross_4 : decode b_RF_cross 4 = .ok (.lload_n 2, 1) := by decide +kernel
theorem d_RF_cross_5 : decode b_RF_cross 5 = .ok (.lload 4, 2) := by decide +kernel
theorem d_RF_cross_7 : decode b_RF_cross 7 = .ok (.lmul, 1) := by decide +kernel
theorem d_RF_cross_8 : decode b_RF_cross 8 = .ok (.lsub, 1) := by decide +kernel
theorem d_RF_cross_9 : decode b_RF_cross 9 = .ok (.lreturn, 1) := by decide +kernel
theorem d_Meeting_init_0 : decode b_Meeting_init 0 = .ok (.aload_n 0, 1) := by decide +kernel
theorem d_Meeting_init_1 : decode b_Meeting_init 1 = .ok (.invokespecial 3, 3) := by decide +kernel
theorem d_Meeting_init_4 : decode b_Meeting_init 4 = .ok (.return_, 1) := by decide +kernel
theorem d_Meeting_fill_0 : decode b_Meeting_fill 0 = .ok (.aload_n 3, 1) := by decide +kernel
theorem d_Meeting_fill_1 : decode b_Meeting_fill 1 = .ok (.aload_n 2, 1) := by decide +kernel
theorem d_Meeting_fill_2 : decode b_Meeting_fill 2 = .ok (.getfield 9, 3) := by decide +kernel
theorem d_Meeting_fill_5 : decode b_Meeting_fill 5 = .ok (.aload_n 2, 1) := by decide +kernel
theorem d_Meeting_fill_6 : decode b_Meeting_fill 6 = .ok (.getfield 15, 3) := by decide +kernel
theorem d_Meeting_fill_9 : decode b_Meeting_fill 9 = .ok (.invokevirtual 18, 3) := by decide +kernel
theorem d_Meeting_fill_12 : decode b_Meeting_fill 12 = .ok (.lstore 4, 2) := by decide +kernel
theorem d_Meeting_fill_14 : decode b_Meeting_fill 14 = .ok (.aload_n 3, 1) := by decide +kernel
theorem d_Meeting_fill_15 : decode b_Meeting_fill 15 = .ok (.aload_n 2, 1) := by decide +kernel
theorem d_Meeting_fill_16 : decode b_Meeting_fill 16 = .ok (.getfield 24, 3) := by decide +kernel
theorem d_Meeting_fill_19 : decode b_Meeting_fill 19 = .ok (.aload_n 2, 1) := by decide +kernel
theorem d_Meeting_fill_20 : decode b_Meeting_fill 20 = .ok (.getfield 27, 3) := by decide +kernel
theorem d_Meeting_fill_23 : decode b_Meeting_fill 23 = .ok (.invokevirtual 18, 3) := by decide +kernel
theorem d_Meeting_fill_26 : decode b_Meeting_fill 26 = .ok (.lstore 6, 2) := by decide +kernel
theorem d_Meeting_fill_28 : decode b_Meeting_fill 28 = .ok (.lload 4, 2) := by decide +kernel
theorem d_Meeting_fill_30 : decode b_Meeting_fill 30 = .ok (.lconst 0, 1) := by decide +kernel
theorem d_Meeting_fill_31 : decode b_Meeting_fill 31 = .ok (.lcmp, 1) := by decide +kernel
theorem d_Meeting_fill_32 : decode b_Meeting_fill 32 = .ok (.ifCond .ge 7, 3) := by decide +kernel
theorem d_Meeting_fill_35 : decode b_Meeting_fill 35 = .ok (.iconst 1, 1) := by decide +kernel
theorem d_Meeting_fill_36 : decode b_Meeting_fill 36 = .ok (.goto 4, 3) := by decide +kernel
theorem d_Meeting_fill_39 : decode b_Meeting_fill 39 = .ok (.iconst 0, 1) := by decide +kernel
theorem d_Meeting_fill_40 : decode b_Meeting_fill 40 = .ok (.lload 6, 2) := by decide +kernel
theorem d_Meeting_fill_42 : decode b_Meeting_fill 42 = .ok (.lconst 0, 1) := by decide +kernel
theorem d_Meeting_fill_43 : decode b_Meeting_fill 43 = .ok (.lcmp, 1) := by decide +kernel
theorem d_Meeting_fill_44 : decode b_Meeting_fill 44 = .ok (.ifCond .ge 7, 3) := by decide +kernel
theorem d_Meeting_fill_47 : decode b_Meeting_fill 47 = .ok (.iconst 1, 1) := by decide +kernel
theorem d_Meeting_fill_48 : decode b_Meeting_fill 48 = .ok (.goto 4, 3) := by decide +kernel
theorem d_Meeting_fill_51 : decode b_Meeting_fill 51 = .ok (.iconst 0, 1) := by decide +kernel
theorem d_Meeting_fill_52 : decode b_Meeting_fill 52 = .ok (.if_icmp .ne 5, 3) := by decide +kernel
theorem d_Meeting_fill_55 : decode b_Meeting_fill 55 = .ok (.iconst 0, 1) := by decide +kernel
theorem d_Meeting_fill_56 : decode b_Meeting_fill 56 = .ok (.ireturn, 1) := by decide +kernel
theorem d_Meeting_fill_57 : decode b_Meeting_fill 57 = .ok (.aload_n 2, 1) := by decide +kernel
theorem d_Meeting_fill_58 : decode b_Meeting_fill 58 = .ok (.aload_n 3, 1) := by decide +kernel
theorem d_Meeting_fill_59 : decode b_Meeting_fill 59 = .ok (.getfield 30, 3) := by decide +kernel
theorem d_Meeting_fill_62 : decode b_Meeting_fill 62 = .ok (.aload_n 3, 1) := by decide +kernel
theorem d_Meeting_fill_63 : decode b_Meeting_fill 63 = .ok (.getfield 33, 3) := by decide +kernel
theorem d_Meeting_fill_66 : decode b_Meeting_fill 66 = .ok (.invokevirtual 36, 3) := by decide +kernel
theorem d_Meeting_fill_69 : decode b_Meeting_fill 69 = .ok (.lstore 8, 2) := by decide +kernel
theorem d_Meeting_fill_71 : decode b_Meeting_fill 71 = .ok (.lload 6, 2) := by decide +kernel
theorem d_Meeting_fill_73 : decode b_Meeting_fill 73 = .ok (.lload 4, 2) := by decide +kernel
theorem d_Meeting_fill_75 : decode b_Meeting_fill 75 = .ok (.lsub, 1) := by decide +kernel
theorem d_Meeting_fill_76 : decode b_Meeting_fill 76 = .ok (.lstore 10, 2) := by decide +kernel
theorem d_Meeting_fill_78 : decode b_Meeting_fill 78 = .ok (.lload 8, 2) := by decide +kernel
theorem d_Meeting_fill_80 : decode b_Meeting_fill 80 = .ok (.lconst 0, 1) := by decide +kernel
theorem d_Meeting_fill_81 : decode b_Meeting_fill 81 = .ok (.lcmp, 1) := by decide +kernel
theorem d_Meeting_fill_82 : decode b_Meeting_fill 82 = .ok (.ifCond .eq 30, 3) := by decide +kernel
theorem d_Meeting_fill_85 : decode b_Meeting_fill 85 = .ok (.lload 8, 2) := by decide +kernel
theorem d_Meeting_fill_87 : decode b_Meeting_fill 87 = .ok (.lconst 0, 1) := by decide +kernel
theorem d_Meeting_fill_88 : decode b_Meeting_fill 88 = .ok (.lcmp, 1) := by decide +kernel
theorem d_Meeting_fill_89 : decode b_Meeting_fill 89 = .ok (.ifCond .ge 7, 3) := by decide +kernel
theorem d_Meeting_fill_92 : decode b_Meeting_fill 92 = .ok (.iconst 1, 1) := by decide +kernel
theorem d_Meeting_fill_93 : decode b_Meeting_fill 93 = .ok (.goto 4, 3) := by decide +kernel
theorem d_Meeting_fill_96 : decode b_Meeting_fill 96 = .ok (.iconst 0, 1) := by decide +kernel
theorem d_Meeting_fill_97 : decode b_Meeting_fill 97 = .ok (.lload 10, 2) := by decide +kernel
theorem d_Meeting_fill_99 : decode b_Meeting_fill 99 = .ok (.lconst 0, 1) := by decide +kernel
theorem d_Meeting_fill_100 : decode b_Meeting_fill 100 = .ok (.lcmp, 1) := by decide +kernel
theorem d_Meeting_fill_101 : decode b_Meeting_fill 101 = .ok (.ifCond .ge 7, 3) := by decide +kernel
theorem d_Meeting_fill_104 : decode b_Meeting_fill 104 = .ok (.iconst 1, 1) := by decide +kernel
theorem d_Meeting_fill_105 : decode b_Meeting_fill 105 = .ok (.goto 4, 3) := by decide +kernel
theorem d_Meeting_fill_108 : decode b_Meeting_fill 108 = .ok (.iconst 0, 1) := by decide +kernel
theorem d_Meeting_fill_109 : decode b_Meeting_fill 109 = .ok (.if_icmp .eq 5, 3) := by decide +kernel
theorem d_Meeting_fill_112 : decode b_Meeting_fill 112 = .ok (.iconst 0, 1) := by decide +kernel
theorem d_Meeting_fill_113 : decode b_Meeting_fill 113 = .ok (.ireturn, 1) := by decide +kernel
theorem d_Meeting_fill_114 : decode b_Meeting_fill 114 = .ok (.aload_n 0, 1) := by decide +kernel
theorem d_Meeting_fill_115 : decode b_Meeting_fill 115 = .ok (.iload_n 1, 1) := by decide +kernel
theorem d_Meeting_fill_116 : decode b_Meeting_fill 116 = .ok (.putfield 37, 3) := by decide +kernel
theorem d_Meeting_fill_119 : decode b_Meeting_fill 119 = .ok (.aload_n 0, 1) := by decide +kernel
theorem d_Meeting_fill_120 : decode b_Meeting_fill 120 = .ok (.lload 8, 2) := by decide +kernel
theorem d_Meeting_fill_122 : decode b_Meeting_fill 122 = .ok (.lconst 0, 1) := by decide +kernel
theorem d_Meeting_fill_123 : decode b_Meeting_fill 123 = .ok (.lcmp, 1) := by decide +kernel
theorem d_Meeting_fill_124 : decode b_Meeting_fill 124 = .ok (.ifCond .ge 7, 3) := by decide +kernel
theorem d_Meeting_fill_127 : decode b_Meeting_fill 127 = .ok (.iconst 1, 1) := by decide +kernel
theorem d_Meeting_fill_128 : decode b_Meeting_fill 128 = .ok (.goto 4, 3) := by decide +kernel
theorem d_Meeting_fill_131 : decode b_Meeting_fill 131 = .ok (.iconst 0, 1) := by decide +kernel
theorem d_Meeting_fill_132 : decode b_Meeting_fill 132 = .ok (.putfield 42, 3) := by decide +kernel
theorem d_Meeting_fill_135 : decode b_Meeting_fill 135 = .ok (.aload_n 0, 1) := by decide +kernel
theorem d_Meeting_fill_136 : decode b_Meeting_fill 136 = .ok (.lload 8, 2) := by decide +kernel
theorem d_Meeting_fill_138 : decode b_Meeting_fill 138 = .ok (.invokestatic 46, 3) := by decide +kernel
theorem d_Meeting_fill_141 : decode b_Meeting_fill 141 = .ok (.putfield 52, 3) := by decide +kernel
theorem d_Meeting_fill_144 : decode b_Meeting_fill 144 = .ok (.aload_n 0, 1) := by decide +kernel
theorem d_Meeting_fill_145 : decode b_Meeting_fill 145 = .ok (.lload 4, 2) := by decide +kernel
theorem d_Meeting_fill_147 : decode b_Meeting_fill 147 = .ok (.invokestatic 46, 3) := by decide +kernel
theorem d_Meeting_fill_150 : decode b_Meeting_fill 150 = .ok (.putfield 56, 3) := by decide +kernel
theorem d_Meeting_fill_153 : decode b_Meeting_fill 153 = .ok (.aload_n 0, 1) := by decide +kernel
theorem d_Meeting_fill_154 : decode b_Meeting_fill 154 = .ok (.lload 10, 2) := by decide +kernel
theorem d_Meeting_fill_156 : decode b_Meeting_fill 156 = .ok (.invokestatic 46, 3) := by decide +kernel
theorem d_Meeting_fill_159 : decode b_Meeting_fill 159 = .ok (.putfield 59, 3) := by decide +kernel
theorem d_Meeting_fill_162 : decode b_Meeting_fill 162 = .ok (.iconst 1, 1) := by decide +kernel
theorem d_Meeting_fill_163 : decode b_Meeting_fill 163 = .ok (.ireturn, 1) := by decide +kernel
theorem d_Meeting_isNearerThan_0 : decode b_Meeting_isNearerThan 0 = .ok (.aload_n 0, 1) := by decide +kernel
theorem d_Meeting_isNearerThan_1 : decode b_Meeting_isNearerThan 1 = .ok (.getfield 52, 3) := by decide +kernel
theorem d_Meeting_isNearerThan_4 : decode b_Meeting_isNearerThan 4 = .ok (.aload_n 1, 1) := by decide +kernel
theorem d_Meeting_isNearerThan_5 : decode b_Meeting_isNearerThan 5 = .ok (.getfield 59, 3) := by decide +kernel
theorem d_Meeting_isNearerThan_8 : decode b_Meeting_isNearerThan 8 = .ok (.lmul, 1) := by decide +kernel
theorem d_Meeting_isNearerThan_9 : decode b_Meeting_isNearerThan 9 = .ok (.aload_n 1, 1) := by decide +kernel
theorem d_Meeting_isNearerThan_10 : decode b_Meeting_isNearerThan 10 = .ok (.getfield 52, 3) := by decide +kernel
theorem d_Meeting_isNearerThan_13 : decode b_Meeting_isNearerThan 13 = .ok (.aload_n 0, 1) := by decide +kernel
theorem d_Meeting_isNearerThan_14 : decode b_Meeting_isNearerThan 14 = .ok (.getfield 59, 3) := by decide +kernel
theorem d_Meeting_isNearerThan_17 : decode b_Meeting_isNearerThan 17 = .ok (.lmul, 1) := by decide +kernel
theorem d_Meeting_isNearerThan_18 : decode b_Meeting_isNearerThan 18 = .ok (.lcmp, 1) := by decide +kernel
theorem d_Meeting_isNearerThan_19 : decode b_Meeting_isNearerThan 19 = .ok (.ifCond .ge 7, 3) := by decide +kernel
theorem d_Meeting_isNearerThan_22 : decode b_Meeting_isNearerThan 22 = .ok (.iconst 1, 1) := by decide +kernel
theorem d_Meeting_isNearerThan_23 : decode b_Meeting_isNearerThan 23 = .ok (.goto 4, 3) := by decide +kernel
theorem d_Meeting_isNearerThan_26 : decode b_Meeting_isNearerThan 26 = .ok (.iconst 0, 1) := by decide +kernel
theorem d_Meeting_isNearerThan_27 : decode b_Meeting_isNearerThan 27 = .ok (.ireturn, 1) := by decide +kernel
theorem d_Meeting_isAtMost_0 : decode b_Meeting_isAtMost 0 = .ok (.aload_n 0, 1) := by decide +kernel
theorem d_Meeting_isAtMost_1 : decode b_Meeting_isAtMost 1 = .ok (.getfield 52, 3) := by decide +kernel
theorem d_Meeting_isAtMost_4 : decode b_Meeting_isAtMost 4 = .ok (.lload_n 3, 1) := by decide +kernel
theorem d_Meeting_isAtMost_5 : decode b_Meeting_isAtMost 5 = .ok (.lmul, 1) := by decide +kernel
theorem d_Meeting_isAtMost_6 : decode b_Meeting_isAtMost 6 = .ok (.lload_n 1, 1) := by decide +kernel
theorem d_Meeting_isAtMost_7 : decode b_Meeting_isAtMost 7 = .ok (.aload_n 0, 1) := by decide +kernel
theorem d_Meeting_isAtMost_8 : decode b_Meeting_isAtMost 8 = .ok (.getfield 59, 3) := by decide +kernel
theorem d_Meeting_isAtMost_11 : decode b_Meeting_isAtMost 11 = .ok (.lmul, 1) := by decide +kernel
theorem d_Meeting_isAtMost_12 : decode b_Meeting_isAtMost 12 = .ok (.lcmp, 1) := by decide +kernel
theorem d_Meeting_isAtMost_13 : decode b_Meeting_isAtMost 13 = .ok (.ifCond .gt 7, 3) := by decide +kernel
theorem d_Meeting_isAtMost_16 : decode b_Meeting_isAtMost 16 = .ok (.iconst 1, 1) := by decide +kernel
theorem d_Meeting_isAtMost_17 : decode b_Meeting_isAtMost 17 = .ok (.goto 4, 3) := by decide +kernel
theorem d_Meeting_isAtMost_20 : decode b_Meeting_isAtMost 20 = .ok (.iconst 0, 1) := by decide +kernel
theorem d_Meeting_isAtMost_21 : decode b_Meeting_isAtMost 21 = .ok (.ireturn, 1) := by decide +kernel
theorem d_Meeting_roundedDown_0 : decode b_Meeting_roundedDown 0 = .ok (.aload_n 0, 1) := by decide +kernel
theorem d_Meeting_roundedDown_1 : decode b_Meeting_roundedDown 1 = .ok (.getfield 59, 3) := by decide +kernel
theorem d_Meeting_roundedDown_4 : decode b_Meeting_roundedDown 4 = .ok (.lconst 0, 1) := by decide +kernel
theorem d_Meeting_roundedDown_5 : decode b_Meeting_roundedDown 5 = .ok (.lcmp, 1) := by decide +kernel
theorem d_Meeting_roundedDown_6 : decode b_Meeting_roundedDown 6 = .ok (.ifCond .le 14, 3) := by decide +kernel
theorem d_Meeting_roundedDown_9 : decode b_Meeting_roundedDown 9 = .ok (.lload_n 1, 1) := by decide +kernel
theorem d_Meeting_roundedDown_10 : decode b_Meeting_roundedDown 10 = .ok (.aload_n 0, 1) := by decide +kernel
theorem d_Meeting_roundedDown_11 : decode b_Meeting_roundedDown 11 = .ok (.getfield 59, 3) := by decide +kernel
theorem d_Meeting_roundedDown_14 : decode b_Meeting_roundedDown 14 = .ok (.invokestatic 62, 3) := by decide +kernel
theorem d_Meeting_roundedDown_17 : decode b_Meeting_roundedDown 17 = .ok (.goto 6, 3) := by decide +kernel
theorem d_Meeting_roundedDown_20 : decode b_Meeting_roundedDown 20 = .ok (.ldc2_w 66, 3) := by decide +kernel
theorem d_Meeting_roundedDown_23 : decode b_Meeting_roundedDown 23 = .ok (.lreturn, 1) := by decide +kernel
theorem d_Ray_init_0 : decode b_Ray_init 0 = .ok (.aload_n 0, 1) := by decide +kernel
theorem d_Ray_init_1 : decode b_Ray_init 1 = .ok (.invokespecial 1, 3) := by decide +kernel
theorem d_Ray_init_4 : decode b_Ray_init 4 = .ok (.aload_n 0, 1) := by decide +kernel
theorem d_Ray_init_5 : decode b_Ray_init 5 = .ok (.iload_n 1, 1) := by decide +kernel
theorem d_Ray_init_6 : decode b_Ray_init 6 = .ok (.putfield 7, 3) := by decide +kernel
theorem d_Ray_init_9 : decode b_Ray_init 9 = .ok (.aload_n 0, 1) := by decide +kernel
theorem d_Ray_init_10 : decode b_Ray_init 10 = .ok (.iload_n 2, 1) := by decide +kernel
theorem d_Ray_init_11 : decode b_Ray_init 11 = .ok (.putfield 13, 3) := by decide +kernel
theorem d_Ray_init_14 : decode b_Ray_init 14 = .ok (.aload_n 0, 1) := by decide +kernel
theorem d_Ray_init_15 : decode b_Ray_init 15 = .ok (.iload_n 3, 1) := by decide +kernel
theorem d_Ray_init_16 : decode b_Ray_init 16 = .ok (.putfield 16, 3) := by decide +kernel
theorem d_Ray_init_19 : decode b_Ray_init 19 = .ok (.aload_n 0, 1) := by decide +kernel
theorem d_Ray_init_20 : decode b_Ray_init 20 = .ok (.iload 4, 2) := by decide +kernel
theorem d_Ray_init_22 : decode b_Ray_init 22 = .ok (.putfield 19, 3) := by decide +kernel
theorem d_Ray_init_25 : decode b_Ray_init 25 = .ok (.return_, 1) := by decide +kernel
theorem d_Ray_side_0 : decode b_Ray_side 0 = .ok (.aload_n 0, 1) := by decide +kernel
theorem d_Ray_side_1 : decode b_Ray_side 1 = .ok (.getfield 16, 3) := by decide +kernel
theorem d_Ray_side_4 : decode b_Ray_side 4 = .ok (.i2l, 1) := by decide +kernel
theorem d_Ray_side_5 : decode b_Ray_side 5 = .ok (.aload_n 0, 1) := by decide +kernel
theorem d_Ray_side_6 : decode b_Ray_side 6 = .ok (.getfield 19, 3) := by decide +kernel
theorem d_Ray_side_9 : decode b_Ray_side 9 = .ok (.i2l, 1) := by decide +kernel
theorem d_Ray_side_10 : decode b_Ray_side 10 = .ok (.iload_n 1, 1) := by decide +kernel
theorem d_Ray_side_11 : decode b_Ray_side 11 = .ok (.aload_n 0, 1) := by decide +kernel
theorem d_Ray_side_12 : decode b_Ray_side 12 = .ok (.getfield 7, 3) := by decide +kernel
theorem d_Ray_side_15 : decode b_Ray_side 15 = .ok (.isub, 1) := by decide +kernel
theorem d_Ray_side_16 : decode b_Ray_side 16 = .ok (.i2l, 1) := by decide +kernel
theorem d_Ray_side_17 : decode b_Ray_side 17 = .ok (.iload_n 2, 1) := by decide +kernel
theorem d_Ray_side_18 : decode b_Ray_side 18 = .ok (.aload_n 0, 1) := by decide +kernel
theorem d_Ray_side_19 : decode b_Ray_side 19 = .ok (.getfield 13, 3) := by decide +kernel
theorem d_Ray_side_22 : decode b_Ray_side 22 = .ok (.isub, 1) := by decide +kernel
theorem d_Ray_side_23 : decode b_Ray_side 23 = .ok (.i2l, 1) := by decide +kernel
theorem d_Ray_side_24 : decode b_Ray_side 24 = .ok (.invokestatic 22, 3) := by decide +kernel
theorem d_Ray_side_27 : decode b_Ray_side 27 = .ok (.lreturn, 1) := by decide +kernel
theorem d_Wall_init_0 : decode b_Wall_init 0 = .ok (.aload_n 0, 1) := by decide +kernel
theorem d_Wall_init_1 : decode b_Wall_init 1 = .ok (.invokespecial 1, 3) := by decide +kernel
theorem d_Wall_init_4 : decode b_Wall_init 4 = .ok (.aload_n 0, 1) := by decide +kernel
theorem d_Wall_init_5 : decode b_Wall_init 5 = .ok (.iload_n 1, 1) := by decide +kernel
theorem d_Wall_init_6 : decode b_Wall_init 6 = .ok (.putfield 7, 3) := by decide +kernel
theorem d_Wall_init_9 : decode b_Wall_init 9 = .ok (.aload_n 0, 1) := by decide +kernel
theorem d_Wall_init_10 : decode b_Wall_init 10 = .ok (.iload_n 2, 1) := by decide +kernel
theorem d_Wall_init_11 : decode b_Wall_init 11 = .ok (.putfield 13, 3) := by decide +kernel
theorem d_Wall_init_14 : decode b_Wall_init 14 = .ok (.aload_n 0, 1) := by decide +kernel
theorem d_Wall_init_15 : decode b_Wall_init 15 = .ok (.iload_n 3, 1) := by decide +kernel
theorem d_Wall_init_16 : decode b_Wall_init 16 = .ok (.putfield 16, 3) := by decide +kernel
theorem d_Wall_init_19 : decode b_Wall_init 19 = .ok (.aload_n 0, 1) := by decide +kernel
theorem d_Wall_init_20 : decode b_Wall_init 20 = .ok (.iload 4, 2) := by decide +kernel
theorem d_Wall_init_22 : decode b_Wall_init 22 = .ok (.putfield 19, 3) := by decide +kernel
theorem d_Wall_init_25 : decode b_Wall_init 25 = .ok (.return_, 1) := by decide +kernel
theorem d_Wall_exchangeEnds_0 : decode b_Wall_exchangeEnds 0 = .ok (.aload_n 0, 1) := by decide +kernel
theorem d_Wall_exchangeEnds_1 : decode b_Wall_exchangeEnds 1 = .ok (.getfield 7, 3) := by decide +kernel
theorem d_Wall_exchangeEnds_4 : decode b_Wall_exchangeEnds 4 = .ok (.istore_n 1, 1) := by decide +kernel
theorem d_Wall_exchangeEnds_5 : decode b_Wall_exchangeEnds 5 = .ok (.aload_n 0, 1) := by decide +kernel
theorem d_Wall_exchangeEnds_6 : decode b_Wall_exchangeEnds 6 = .ok (.getfield 13, 3) := by decide +kernel
theorem d_Wall_exchangeEnds_9 : decode b_Wall_exchangeEnds 9 = .ok (.istore_n 2, 1) := by decide +kernel
theorem d_Wall_exchangeEnds_10 : decode b_Wall_exchangeEnds 10 = .ok (.aload_n 0, 1) := by decide +kernel
theorem d_Wall_exchangeEnds_11 : decode b_Wall_exchangeEnds 11 = .ok (.aload_n 0, 1) := by decide +kernel
theorem d_Wall_exchangeEnds_12 : decode b_Wall_exchangeEnds 12 = .ok (.getfield 16, 3) := by decide +kernel
theorem d_Wall_exchangeEnds_15 : decode b_Wall_exchangeEnds 15 = .ok (.putfield 7, 3) := by decide +kernel
theorem d_Wall_exchangeEnds_18 : decode b_Wall_exchangeEnds 18 = .ok (.aload_n 0, 1) := by decide +kernel
theorem d_Wall_exchangeEnds_19 : decode b_Wall_exchangeEnds 19 = .ok (.aload_n 0, 1) := by decide +kernel
theorem d_Wall_exchangeEnds_20 : decode b_Wall_exchangeEnds 20 = .ok (.getfield 19, 3) := by decide +kernel
theorem d_Wall_exchangeEnds_23 : decode b_Wall_exchangeEnds 23 = .ok (.putfield 13, 3) := by decide +kernel
theorem d_Wall_exchangeEnds_26 : decode b_Wall_exchangeEnds 26 = .ok (.aload_n 0, 1) := by decide +kernel
theorem d_Wall_exchangeEnds_27 : decode b_Wall_exchangeEnds 27 = .ok (.iload_n 1, 1) := by decide +kernel
theorem d_Wall_exchangeEnds_28 : decode b_Wall_exchangeEnds 28 = .ok (.putfield 16, 3) := by decide +kernel
theorem d_Wall_exchangeEnds_31 : decode b_Wall_exchangeEnds 31 = .ok (.aload_n 0, 1) := by decide +kernel
theorem d_Wall_exchangeEnds_32 : decode b_Wall_exchangeEnds 32 = .ok (.iload_n 2, 1) := by decide +kernel
theorem d_Wall_exchangeEnds_33 : decode b_Wall_exchangeEnds 33 = .ok (.putfield 19, 3) := by decide +kernel
theorem d_Wall_exchangeEnds_36 : decode b_Wall_exchangeEnds 36 = .ok (.return_, 1) := by decide +kernel
theorem d_Wall_side_0 : decode b_Wall_side 0 = .ok (.aload_n 0, 1) := by decide +kernel
theorem d_Wall_side_1 : decode b_Wall_side 1 = .ok (.getfield 16, 3) := by decide +kernel
theorem d_Wall_side_4 : decode b_Wall_side 4 = .ok (.aload_n 0, 1) := by decide +kernel
theorem d_Wall_side_5 : decode b_Wall_side 5 = .ok (.getfield 7, 3) := by decide +kernel
theorem d_Wall_side_8 : decode b_Wall_side 8 = .ok (.isub, 1) := by decide +kernel
theorem d_Wall_side_9 : decode b_Wall_side 9 = .ok (.i2l, 1) := by decide +kernel
theorem d_Wall_side_10 : decode b_Wall_side 10 = .ok (.aload_n 0, 1) := by decide +kernel
theorem d_Wall_side_11 : decode b_Wall_side 11 = .ok (.getfield 19, 3) := by decide +kernel
theorem d_Wall_side_14 : decode b_Wall_side 14 = .ok (.aload_n 0, 1) := by decide +kernel
theorem d_Wall_side_15 : decode b_Wall_side 15 = .ok (.getfield 13, 3) := by decide +kernel
theorem d_Wall_side_18 : decode b_Wall_side 18 = .ok (.isub, 1) := by decide +kernel
theorem d_Wall_side_19 : decode b_Wall_side 19 = .ok (.i2l, 1) := by decide +kernel
theorem d_Wall_side_20 : decode b_Wall_side 20 = .ok (.iload_n 1, 1) := by decide +kernel
theorem d_Wall_side_21 : decode b_Wall_side 21 = .ok (.aload_n 0, 1) := by decide +kernel
theorem d_Wall_side_22 : decode b_Wall_side 22 = .ok (.getfield 7, 3) := by decide +kernel
theorem d_Wall_side_25 : decode b_Wall_side 25 = .ok (.isub, 1) := by decide +kernel
theorem d_Wall_side_26 : decode b_Wall_side 26 = .ok (.i2l, 1) := by decide +kernel
theorem d_Wall_side_27 : decode b_Wall_side 27 = .ok (.iload_n 2, 1) := by decide +kernel
theorem d_Wall_side_28 : decode b_Wall_side 28 = .ok (.aload_n 0, 1) := by decide +kernel
theorem d_Wall_side_29 : decode b_Wall_side 29 = .ok (.getfield 13, 3) := by decide +kernel
theorem d_Wall_side_32 : decode b_Wall_side 32 = .ok (.isub, 1) := by decide +kernel
theorem d_Wall_side_33 : decode b_Wall_side 33 = .ok (.i2l, 1) := by decide +kernel
theorem d_Wall_side_34 : decode b_Wall_side 34 = .ok (.invokestatic 22, 3) := by decide +kernel
theorem d_Wall_side_37 : decode b_Wall_side 37 = .ok (.lreturn, 1) := by decide +kernel
theorem d_Wall_covers_0 : decode b_Wall_covers 0 = .ok (.aload_n 0, 1) := by decide +kernel
theorem d_Wall_covers_1 : decode b_Wall_covers 1 = .ok (.iload_n 1, 1) := by decide +kernel
theorem d_Wall_covers_2 : decode b_Wall_covers 2 = .ok (.iload_n 2, 1) := by decide +kernel
theorem d_Wall_covers_3 : decode b_Wall_covers 3 = .ok (.invokevirtual 28, 3) := by decide +kernel
theorem d_Wall_covers_6 : decode b_Wall_covers 6 = .ok (.lconst 0, 1) := by decide +kernel
theorem d_Wall_covers_7 : decode b_Wall_covers 7 = .ok (.lcmp, 1) := by decide +kernel
theorem d_Wall_covers_8 : decode b_Wall_covers 8 = .ok (.ifCond .ne 65, 3) := by decide +kernel
theorem d_Wall_covers_11 : decode b_Wall_covers 11 = .ok (.iload_n 1, 1) := by decide +kernel
theorem d_Wall_covers_12 : decode b_Wall_covers 12 = .ok (.aload_n 0, 1) := by decide +kernel
theorem d_Wall_covers_13 : decode b_Wall_covers 13 = .ok (.getfield 7, 3) := by decide +kernel
theorem d_Wall_covers_16 : decode b_Wall_covers 16 = .ok (.aload_n 0, 1) := by decide +kernel
theorem d_Wall_covers_17 : decode b_Wall_covers 17 = .ok (.getfield 16, 3) := by decide +kernel
theorem d_Wall_covers_20 : decode b_Wall_covers 20 = .ok (.invokestatic 32, 3) := by decide +kernel
theorem d_Wall_covers_23 : decode b_Wall_covers 23 = .ok (.aload_n 0, 1) := by decide +kernel
theorem d_Wall_covers_24 : decode b_Wall_covers 24 = .ok (.getfield 7, 3) := by decide +kernel
theorem d_Wall_covers_27 : decode b_Wall_covers 27 = .ok (.aload_n 0, 1) := by decide +kernel
theorem d_Wall_covers_28 : decode b_Wall_covers 28 = .ok (.getfield 16, 3) := by decide +kernel
theorem d_Wall_covers_31 : decode b_Wall_covers 31 = .ok (.invokestatic 38, 3) := by decide +kernel
theorem d_Wall_covers_34 : decode b_Wall_covers 34 = .ok (.invokestatic 41, 3) := by decide +kernel
theorem d_Wall_covers_37 : decode b_Wall_covers 37 = .ok (.ifCond .eq 36, 3) := by decide +kernel
theorem d_Wall_covers_40 : decode b_Wall_covers 40 = .ok (.iload_n 2, 1) := by decide +kernel
theorem d_Wall_covers_41 : decode b_Wall_covers 41 = .ok (.aload_n 0, 1) := by decide +kernel
theorem d_Wall_covers_42 : decode b_Wall_covers 42 = .ok (.getfield 13, 3) := by decide +kernel
theorem d_Wall_covers_45 : decode b_Wall_covers 45 = .ok (.aload_n 0, 1) := by decide +kernel
theorem d_Wall_covers_46 : decode b_Wall_covers 46 = .ok (.getfield 19, 3) := by decide +kernel
theorem d_Wall_covers_49 : decode b_Wall_covers 49 = .ok (.invokestatic 32, 3) := by decide +kernel
theorem d_Wall_covers_52 : decode b_Wall_covers 52 = .ok (.aload_n 0, 1) := by decide +kernel
theorem d_Wall_covers_53 : decode b_Wall_covers 53 = .ok (.getfield 13, 3) := by decide +kernel
theorem d_Wall_covers_56 : decode b_Wall_covers 56 = .ok (.aload_n 0, 1) := by decide +kernel
theorem d_Wall_covers_57 : decode b_Wall_covers 57 = .ok (.getfield 19, 3) := by decide +kernel
theorem d_Wall_covers_60 : decode b_Wall_covers 60 = .ok (.invokestatic 38, 3) := by decide +kernel
theorem d_Wall_covers_63 : decode b_Wall_covers 63 = .ok (.invokestatic 41, 3) := by decide +kernel
theorem d_Wall_covers_66 : decode b_Wall_covers 66 = .ok (.ifCond .eq 7, 3) := by decide +kernel
theorem d_Wall_covers_69 : decode b_Wall_covers 69 = .ok (.iconst 1, 1) := by decide +kernel
theorem d_Wall_covers_70 : decode b_Wall_covers 70 = .ok (.goto 4, 3) := by decide +kernel
theorem d_Wall_covers_73 : decode b_Wall_covers 73 = .ok (.iconst 0, 1) := by decide +kernel
theorem d_Wall_covers_74 : decode b_Wall_covers 74 = .ok (.ireturn, 1) := by decide +kernel
theorem d_Wall_clashesWith_0 : decode b_Wall_clashesWith 0 = .ok (.aload_n 0, 1) := by decide +kernel
theorem d_Wall_clashesWith_1 : decode b_Wall_clashesWith 1 = .ok (.aload_n 1, 1) := by decide +kernel
theorem d_Wall_clashesWith_2 : decode b_Wall_clashesWith 2 = .ok (.getfield 7, 3) := by decide +kernel
theorem d_Wall_clashesWith_5 : decode b_Wall_clashesWith 5 = .ok (.aload_n 1, 1) := by decide +kernel
theorem d_Wall_clashesWith_6 : decode b_Wall_clashesWith 6 = .ok (.getfield 13, 3) := by decide +kernel
theorem d_Wall_clashesWith_9 : decode b_Wall_clashesWith 9 = .ok (.invokevirtual 28, 3) := by decide +kernel
theorem d_Wall_clashesWith_12 : decode b_Wall_clashesWith 12 = .ok (.lstore_n 2, 1) := by decide +kernel
theorem d_Wall_clashesWith_13 : decode b_Wall_clashesWith 13 = .ok (.aload_n 0, 1) := by decide +kernel
theorem d_Wall_clashesWith_14 : decode b_Wall_clashesWith 14 = .ok (.aload_n 1, 1) := by decide +kernel
theorem d_Wall_clashesWith_15 : decode b_Wall_clashesWith 15 = .ok (.getfield 16, 3) := by decide +kernel
theorem d_Wall_clashesWith_18 : decode b_Wall_clashesWith 18 = .ok (.aload_n 1, 1) := by decide +kernel
theorem d_Wall_clashesWith_19 : decode b_Wall_clashesWith 19 = .ok (.getfield 19, 3) := by decide +kernel
theorem d_Wall_clashesWith_22 : decode b_Wall_clashesWith 22 = .ok (.invokevirtual 28, 3) := by decide +kernel
theorem d_Wall_clashesWith_25 : decode b_Wall_clashesWith 25 = .ok (.lstore 4, 2) := by decide +kernel
theorem d_Wall_clashesWith_27 : decode b_Wall_clashesWith 27 = .ok (.lload_n 2, 1) := by decide +kernel
theorem d_Wall_clashesWith_28 : decode b_Wall_clashesWith 28 = .ok (.lconst 0, 1) := by decide +kernel
theorem d_Wall_clashesWith_29 : decode b_Wall_clashesWith 29 = .ok (.lcmp, 1) := by decide +kernel
theorem d_Wall_clashesWith_30 : decode b_Wall_clashesWith 30 = .ok (.ifCond .ne 16, 3) := by decide +kernel
theorem d_Wall_clashesWith_33 : decode b_Wall_clashesWith 33 = .ok (.lload 4, 2) := by decide +kernel
theorem d_Wall_clashesWith_35 : decode b_Wall_clashesWith 35 = .ok (.lconst 0, 1) := by decide +kernel
theorem d_Wall_clashesWith_36 : decode b_Wall_clashesWith 36 = .ok (.lcmp, 1) := by decide +kernel
theorem d_Wall_clashesWith_37 : decode b_Wall_clashesWith 37 = .ok (.ifCond .ne 9, 3) := by decide +kernel
theorem d_Wall_clashesWith_40 : decode b_Wall_clashesWith 40 = .ok (.aload_n 0, 1) := by decide +kernel
theorem d_Wall_clashesWith_41 : decode b_Wall_clashesWith 41 = .ok (.aload_n 1, 1) := by decide +kernel
theorem d_Wall_clashesWith_42 : decode b_Wall_clashesWith 42 = .ok (.invokevirtual 45, 3) := by decide +kernel
theorem d_Wall_clashesWith_45 : decode b_Wall_clashesWith 45 = .ok (.ireturn, 1) := by decide +kernel
theorem d_Wall_clashesWith_46 : decode b_Wall_clashesWith 46 = .ok (.aload_n 0, 1) := by decide +kernel
theorem d_Wall_clashesWith_47 : decode b_Wall_clashesWith 47 = .ok (.aload_n 1, 1) := by decide +kernel
theorem d_Wall_clashesWith_48 : decode b_Wall_clashesWith 48 = .ok (.invokevirtual 49, 3) := by decide +kernel
theorem d_Wall_clashesWith_51 : decode b_Wall_clashesWith 51 = .ok (.ifCond .ne 46, 3) := by decide +kernel
theorem d_Wall_clashesWith_54 : decode b_Wall_clashesWith 54 = .ok (.lload_n 2, 1) := by decide +kernel
theorem d_Wall_clashesWith_55 : decode b_Wall_clashesWith 55 = .ok (.lload 4, 2) := by decide +kernel
theorem d_Wall_clashesWith_57 : decode b_Wall_clashesWith 57 = .ok (.lmul, 1) := by decide +kernel
theorem d_Wall_clashesWith_58 : decode b_Wall_clashesWith 58 = .ok (.lconst 0, 1) := by decide +kernel
theorem d_Wall_clashesWith_59 : decode b_Wall_clashesWith 59 = .ok (.lcmp, 1) := by decide +kernel
theorem d_Wall_clashesWith_60 : decode b_Wall_clashesWith 60 = .ok (.ifCond .gt 37, 3) := by decide +kernel
theorem d_Wall_clashesWith_63 : decode b_Wall_clashesWith 63 = .ok (.aload_n 1, 1) := by decide +kernel
theorem d_Wall_clashesWith_64 : decode b_Wall_clashesWith 64 = .ok (.aload_n 0, 1) := by decide +kernel
theorem d_Wall_clashesWith_65 : decode b_Wall_clashesWith 65 = .ok (.getfield 7, 3) := by decide +kernel
theorem d_Wall_clashesWith_68 : decode b_Wall_clashesWith 68 = .ok (.aload_n 0, 1) := by decide +kernel
theorem d_Wall_clashesWith_69 : decode b_Wall_clashesWith 69 = .ok (.getfield 13, 3) := by decide +kernel
theorem d_Wall_clashesWith_72 : decode b_Wall_clashesWith 72 = .ok (.invokevirtual 28, 3) := by decide +kernel
theorem d_Wall_clashesWith_75 : decode b_Wall_clashesWith 75 = .ok (.aload_n 1, 1) := by decide +kernel
theorem d_Wall_clashesWith_76 : decode b_Wall_clashesWith 76 = .ok (.aload_n 0, 1) := by decide +kernel
theorem d_Wall_clashesWith_77 : decode b_Wall_clashesWith 77 = .ok (.getfield 16, 3) := by decide +kernel
theorem d_Wall_clashesWith_80 : decode b_Wall_clashesWith 80 = .ok (.aload_n 0, 1) := by decide +kernel
theorem d_Wall_clashesWith_81 : decode b_Wall_clashesWith 81 = .ok (.getfield 19, 3) := by decide +kernel
theorem d_Wall_clashesWith_84 : decode b_Wall_clashesWith 84 = .ok (.invokevirtual 28, 3) := by decide +kernel
theorem d_Wall_clashesWith_87 : decode b_Wall_clashesWith 87 = .ok (.lmul, 1) := by decide +kernel
theorem d_Wall_clashesWith_88 : decode b_Wall_clashesWith 88 = .ok (.lconst 0, 1) := by decide +kernel
theorem d_Wall_clashesWith_89 : decode b_Wall_clashesWith 89 = .ok (.lcmp, 1) := by decide +kernel
theorem d_Wall_clashesWith_90 : decode b_Wall_clashesWith 90 = .ok (.ifCond .gt 7, 3) := by decide +kernel
theorem d_Wall_clashesWith_93 : decode b_Wall_clashesWith 93 = .ok (.iconst 1, 1) := by decide +kernel
theorem d_Wall_clashesWith_94 : decode b_Wall_clashesWith 94 = .ok (.goto 4, 3) := by decide +kernel
theorem d_Wall_clashesWith_97 : decode b_Wall_clashesWith 97 = .ok (.iconst 0, 1) := by decide +kernel
theorem d_Wall_clashesWith_98 : decode b_Wall_clashesWith 98 = .ok (.ireturn, 1) := by decide +kernel
theorem d_Wall_overlapsOnItsLine_0 : decode b_Wall_overlapsOnItsLine 0 = .ok (.aload_n 0, 1) := by decide +kernel
theorem d_Wall_overlapsOnItsLine_1 : decode b_Wall_overlapsOnItsLine 1 = .ok (.getfield 7, 3) := by decide +kernel
theorem d_Wall_overlapsOnItsLine_4 : decode b_Wall_overlapsOnItsLine 4 = .ok (.aload_n 0, 1) := by decide +kernel
theorem d_Wall_overlapsOnItsLine_5 : decode b_Wall_overlapsOnItsLine 5 = .ok (.getfield 16, 3) := by decide +kernel
theorem d_Wall_overlapsOnItsLine_8 : decode b_Wall_overlapsOnItsLine 8 = .ok (.aload_n 1, 1) := by decide +kernel
theorem d_Wall_overlapsOnItsLine_9 : decode b_Wall_overlapsOnItsLine 9 = .ok (.getfield 7, 3) := by decide +kernel
theorem d_Wall_overlapsOnItsLine_12 : decode b_Wall_overlapsOnItsLine 12 = .ok (.aload_n 1, 1) := by decide +kernel
theorem d_Wall_overlapsOnItsLine_13 : decode b_Wall_overlapsOnItsLine 13 = .ok (.getfield 16, 3) := by decide +kernel
theorem d_Wall_overlapsOnItsLine_16 : decode b_Wall_overlapsOnItsLine 16 = .ok (.invokestatic 52, 3) := by decide +kernel
theorem d_Wall_overlapsOnItsLine_19 : decode b_Wall_overlapsOnItsLine 19 = .ok (.ifCond .gt 25, 3) := by decide +kernel
theorem d_Wall_overlapsOnItsLine_22 : decode b_Wall_overlapsOnItsLine 22 = .ok (.aload_n 0, 1) := by decide +kernel
theorem d_Wall_overlapsOnItsLine_23 : decode b_Wall_overlapsOnItsLine 23 = .ok (.getfield 13, 3) := by decide +kernel
theorem d_Wall_overlapsOnItsLine_26 : decode b_Wall_overlapsOnItsLine 26 = .ok (.aload_n 0, 1) := by decide +kernel
theorem d_Wall_overlapsOnItsLine_27 : decode b_Wall_overlapsOnItsLine 27 = .ok (.getfield 19, 3) := by decide +kernel
theorem d_Wall_overlapsOnItsLine_30 : decode b_Wall_overlapsOnItsLine 30 = .ok (.aload_n 1, 1) := by decide +kernel
theorem d_Wall_overlapsOnItsLine_31 : decode b_Wall_overlapsOnItsLine 31 = .ok (.getfield 13, 3) := by decide +kernel
theorem d_Wall_overlapsOnItsLine_34 : decode b_Wall_overlapsOnItsLine 34 = .ok (.aload_n 1, 1) := by decide +kernel
theorem d_Wall_overlapsOnItsLine_35 : decode b_Wall_overlapsOnItsLine 35 = .ok (.getfield 19, 3) := by decide +kernel
theorem d_Wall_overlapsOnItsLine_38 : decode b_Wall_overlapsOnItsLine 38 = .ok (.invokestatic 52, 3) := by decide +kernel
theorem d_Wall_overlapsOnItsLine_41 : decode b_Wall_overlapsOnItsLine 41 = .ok (.ifCond .le 7, 3) := by decide +kernel
theorem d_Wall_overlapsOnItsLine_44 : decode b_Wall_overlapsOnItsLine 44 = .ok (.iconst 1, 1) := by decide +kernel
theorem d_Wall_overlapsOnItsLine_45 : decode b_Wall_overlapsOnItsLine 45 = .ok (.goto 4, 3) := by decide +kernel
theorem d_Wall_overlapsOnItsLine_48 : decode b_Wall_overlapsOnItsLine 48 = .ok (.iconst 0, 1) := by decide +kernel
theorem d_Wall_overlapsOnItsLine_49 : decode b_Wall_overlapsOnItsLine 49 = .ok (.ireturn, 1) := by decide +kernel
theorem d_Wall_sharesEndWith_0 : decode b_Wall_sharesEndWith 0 = .ok (.aload_n 1, 1) := by decide +kernel
theorem d_Wall_sharesEndWith_1 : decode b_Wall_sharesEndWith 1 = .ok (.aload_n 0, 1) := by decide +kernel
theorem d_Wall_sharesEndWith_2 : decode b_Wall_sharesEndWith 2 = .ok (.getfield 7, 3) := by decide +kernel
theorem d_Wall_sharesEndWith_5 : decode b_Wall_sharesEndWith 5 = .ok (.aload_n 0, 1) := by decide +kernel
theorem d_Wall_sharesEndWith_6 : decode b_Wall_sharesEndWith 6 = .ok (.getfield 13, 3) := by decide +kernel
theorem d_Wall_sharesEndWith_9 : decode b_Wall_sharesEndWith 9 = .ok (.invokevirtual 56, 3) := by decide +kernel
theorem d_Wall_sharesEndWith_12 : decode b_Wall_sharesEndWith 12 = .ok (.ifCond .ne 18, 3) := by decide +kernel
theorem d_Wall_sharesEndWith_15 : decode b_Wall_sharesEndWith 15 = .ok (.aload_n 1, 1) := by decide +kernel
theorem d_Wall_sharesEndWith_16 : decode b_Wall_sharesEndWith 16 = .ok (.aload_n 0, 1) := by decide +kernel
theorem d_Wall_sharesEndWith_17 : decode b_Wall_sharesEndWith 17 = .ok (.getfield 16, 3) := by decide +kernel
theorem d_Wall_sharesEndWith_20 : decode b_Wall_sharesEndWith 20 = .ok (.aload_n 0, 1) := by decide +kernel
theorem d_Wall_sharesEndWith_21 : decode b_Wall_sharesEndWith 21 = .ok (.getfield 19, 3) := by decide +kernel
theorem d_Wall_sharesEndWith_24 : decode b_Wall_sharesEndWith 24 = .ok (.invokevirtual 56, 3) := by decide +kernel
theorem d_Wall_sharesEndWith_27 : decode b_Wall_sharesEndWith 27 = .ok (.ifCond .eq 7, 3) := by decide +kernel
theorem d_Wall_sharesEndWith_30 : decode b_Wall_sharesEndWith 30 = .ok (.iconst 1, 1) := by decide +kernel
theorem d_Wall_sharesEndWith_31 : decode b_Wall_sharesEndWith 31 = .ok (.goto 4, 3) := by decide +kernel
theorem d_Wall_sharesEndWith_34 : decode b_Wall_sharesEndWith 34 = .ok (.iconst 0, 1) := by decide +kernel
theorem d_Wall_sharesEndWith_35 : decode b_Wall_sharesEndWith 35 = .ok (.ireturn, 1) := by decide +kernel
theorem d_Wall_hasEnd_0 : decode b_Wall_hasEnd 0 = .ok (.iload_n 1, 1) := by decide +kernel
theorem d_Wall_hasEnd_1 : decode b_Wall_hasEnd 1 = .ok (.aload_n 0, 1) := by decide +kernel
theorem d_Wall_hasEnd_2 : decode b_Wall_hasEnd 2 = .ok (.getfield 7, 3) := by decide +kernel
theorem d_Wall_hasEnd_5 : decode b_Wall_hasEnd 5 = .ok (.if_icmp .ne 11, 3) := by decide +kernel
theorem d_Wall_hasEnd_8 : decode b_Wall_hasEnd 8 = .ok (.iload_n 2, 1) := by decide +kernel
theorem d_Wall_hasEnd_9 : decode b_Wall_hasEnd 9 = .ok (.aload_n 0, 1) := by decide +kernel
theorem d_Wall_hasEnd_10 : decode b_Wall_hasEnd 10 = .ok (.getfield 13, 3) := by decide +kernel
theorem d_Wall_hasEnd_13 : decode b_Wall_hasEnd 13 = .ok (.if_icmp .eq 19, 3) := by decide +kernel
theorem d_Wall_hasEnd_16 : decode b_Wall_hasEnd 16 = .ok (.iload_n 1, 1) := by decide +kernel
theorem d_Wall_hasEnd_17 : decode b_Wall_hasEnd 17 = .ok (.aload_n 0, 1) := by decide +kernel
theorem d_Wall_hasEnd_18 : decode b_Wall_hasEnd 18 = .ok (.getfield 16, 3) := by decide +kernel
theorem d_Wall_hasEnd_21 : decode b_Wall_hasEnd 21 = .ok (.if_icmp .ne 15, 3) := by decide +kernel
theorem d_Wall_hasEnd_24 : decode b_Wall_hasEnd 24 = .ok (.iload_n 2, 1) := by decide +kernel
theorem d_Wall_hasEnd_25 : decode b_Wall_hasEnd 25 = .ok (.aload_n 0, 1) := by decide +kernel
theorem d_Wall_hasEnd_26 : decode b_Wall_hasEnd 26 = .ok (.getfield 19, 3) := by decide +kernel
theorem d_Wall_hasEnd_29 : decode b_Wall_hasEnd 29 = .ok (.if_icmp .ne 7, 3) := by decide +kernel
theorem d_Wall_hasEnd_32 : decode b_Wall_hasEnd 32 = .ok (.iconst 1, 1) := by decide +kernel
theorem d_Wall_hasEnd_33 : decode b_Wall_hasEnd 33 = .ok (.goto 4, 3) := by decide +kernel
theorem d_Wall_hasEnd_36 : decode b_Wall_hasEnd 36 = .ok (.iconst 0, 1) := by decide +kernel
theorem d_Wall_hasEnd_37 : decode b_Wall_hasEnd 37 = .ok (.ireturn, 1) := by decide +kernel
theorem d_Wall_commonLength_0 : decode b_Wall_commonLength 0 = .ok (.iload_n 0, 1) := by decide +kernel
theorem d_Wall_commonLength_1 : decode b_Wall_commonLength 1 = .ok (.iload_n 1, 1) := by decide +kernel
theorem d_Wall_commonLength_2 : decode b_Wall_commonLength 2 = .ok (.invokestatic 32, 3) := by decide +kernel
theorem d_Wall_commonLength_5 : decode b_Wall_commonLength 5 = .ok (.iload_n 2, 1) := by decide +kernel
theorem d_Wall_commonLength_6 : decode b_Wall_commonLength 6 = .ok (.iload_n 3, 1) := by decide +kernel
theorem d_Wall_commonLength_7 : decode b_Wall_commonLength 7 = .ok (.invokestatic 32, 3) := by decide +kernel
theorem d_Wall_commonLength_10 : decode b_Wall_commonLength 10 = .ok (.invokestatic 38, 3) := by decide +kernel
theorem d_Wall_commonLength_13 : decode b_Wall_commonLength 13 = .ok (.istore 4, 2) := by decide +kernel
theorem d_Wall_commonLength_15 : decode b_Wall_commonLength 15 = .ok (.iload_n 0, 1) := by decide +kernel
theorem d_Wall_commonLength_16 : decode b_Wall_commonLength 16 = .ok (.iload_n 1, 1) := by decide +kernel
theorem d_Wall_commonLength_17 : decode b_Wall_commonLength 17 = .ok (.invokestatic 38, 3) := by decide +kernel
theorem d_Wall_commonLength_20 : decode b_Wall_commonLength 20 = .ok (.iload_n 2, 1) := by decide +kernel
theorem d_Wall_commonLength_21 : decode b_Wall_commonLength 21 = .ok (.iload_n 3, 1) := by decide +kernel
theorem d_Wall_commonLength_22 : decode b_Wall_commonLength 22 = .ok (.invokestatic 38, 3) := by decide +kernel
theorem d_Wall_commonLength_25 : decode b_Wall_commonLength 25 = .ok (.invokestatic 32, 3) := by decide +kernel
theorem d_Wall_commonLength_28 : decode b_Wall_commonLength 28 = .ok (.istore 5, 2) := by decide +kernel
theorem d_Wall_commonLength_30 : decode b_Wall_commonLength 30 = .ok (.iload 5, 2) := by decide +kernel
theorem d_Wall_commonLength_32 : decode b_Wall_commonLength 32 = .ok (.iload 4, 2) := by decide +kernel
theorem d_Wall_commonLength_34 : decode b_Wall_commonLength 34 = .ok (.isub, 1) := by decide +kernel
theorem d_Wall_commonLength_35 : decode b_Wall_commonLength 35 = .ok (.ireturn, 1) := by decide +kernel
theorem d_Math_floorDiv_0 : decode b_Math_floorDiv 0 = .ok (.lload_n 0, 1) := by decide +kernel
theorem d_Math_floorDiv_1 : decode b_Math_floorDiv 1 = .ok (.lload_n 2, 1) := by decide +kernel
theorem d_Math_floorDiv_2 : decode b_Math_floorDiv 2 = .ok (.ldiv, 1) := by decide +kernel
theorem d_Math_floorDiv_3 : decode b_Math_floorDiv 3 = .ok (.lstore 4, 2) := by decide +kernel
theorem d_Math_floorDiv_5 : decode b_Math_floorDiv 5 = .ok (.lload_n 0, 1) := by decide +kernel
theorem d_Math_floorDiv_6 : decode b_Math_floorDiv 6 = .ok (.lload_n 2, 1) := by decide +kernel
theorem d_Math_floorDiv_7 : decode b_Math_floorDiv 7 = .ok (.lxor, 1) := by decide +kernel
theorem d_Math_floorDiv_8 : decode b_Math_floorDiv 8 = .ok (.lconst 0, 1) := by decide +kernel
theorem d_Math_floorDiv_9 : decode b_Math_floorDiv 9 = .ok (.lcmp, 1) := by decide +kernel
theorem d_Math_floorDiv_10 : decode b_Math_floorDiv 10 = .ok (.ifCond .ge 17, 3) := by decide +kernel
theorem d_Math_floorDiv_13 : decode b_Math_floorDiv 13 = .ok (.lload 4, 2) := by decide +kernel
theorem d_Math_floorDiv_15 : decode b_Math_floorDiv 15 = .ok (.lload_n 2, 1) := by decide +kernel
theorem d_Math_floorDiv_16 : decode b_Math_floorDiv 16 = .ok (.lmul, 1) := by decide +kernel
theorem d_Math_floorDiv_17 : decode b_Math_floorDiv 17 = .ok (.lload_n 0, 1) := by decide +kernel
theorem d_Math_floorDiv_18 : decode b_Math_floorDiv 18 = .ok (.lcmp, 1) := by decide +kernel
theorem d_Math_floorDiv_19 : decode b_Math_floorDiv 19 = .ok (.ifCond .eq 8, 3) := by decide +kernel
theorem d_Math_floorDiv_22 : decode b_Math_floorDiv 22 = .ok (.lload 4, 2) := by decide +kernel
theorem d_Math_floorDiv_24 : decode b_Math_floorDiv 24 = .ok (.lconst 1, 1) := by decide +kernel
theorem d_Math_floorDiv_25 : decode b_Math_floorDiv 25 = .ok (.lsub, 1) := by decide +kernel
theorem d_Math_floorDiv_26 : decode b_Math_floorDiv 26 = .ok (.lreturn, 1) := by decide +kernel
theorem d_Math_floorDiv_27 : decode b_Math_floorDiv 27 = .ok (.lload 4, 2) := by decide +kernel
theorem d_Math_floorDiv_29 : decode b_Math_floorDiv 29 = .ok (.lreturn, 1) := by decide +kernel
end
section
theorem d_Md_cross_0 : decode b_Md_cross 0 = .ok (.lload_n 0, 1) := by decide +kernel
theorem d_Md_cross_1 : decode b_Md_cross 1 = .ok (.lload 6, 2) := by decide +kernel
theorem d_Md_cross_3 : decode b_Md_cross 3 = .ok (.lmul, 1) := by decide +kernel
theorem d_Md_cross_4 : decode b_Md_cross 4 = .ok (.lload_n 2, 1) := by decide +kernel
theorem d_Md_cross_5 : decode b_Md_cross 5 = .ok (.lload 4, 2) := by decide +kernel
theorem d_Md_cross_7 : decode b_Md_cross 7 = .ok (.lmul, 1) := by decide +kernel
theorem d_Md_cross_8 : decode b_Md_cross 8 = .ok (.lsub, 1) := by decide +kernel
theorem d_Md_cross_9 : decode b_Md_cross 9 = .ok (.lreturn, 1) := by decide +kernel
theorem d_Md_isIn_0 : decode b_Md_isIn 0 = .ok (.iload_n 0, 1) := by decide +kernel
theorem d_Md_isIn_1 : decode b_Md_isIn 1 = .ok (.iload_n 1, 1) := by decide +kernel
theorem d_Md_isIn_2 : decode b_Md_isIn 2 = .ok (.ineg, 1) := by decide +kernel
theorem d_Md_isIn_3 : decode b_Md_isIn 3 = .ok (.if_icmp .lt 12, 3) := by decide +kernel
theorem d_Md_isIn_6 : decode b_Md_isIn 6 = .ok (.iload_n 0, 1) := by decide +kernel
theorem d_Md_isIn_7 : decode b_Md_isIn 7 = .ok (.iload_n 1, 1) := by decide +kernel
theorem d_Md_isIn_8 : decode b_Md_isIn 8 = .ok (.if_icmp .gt 7, 3) := by decide +kernel
theorem d_Md_isIn_11 : decode b_Md_isIn 11 = .ok (.iconst 1, 1) := by decide +kernel
theorem d_Md_isIn_12 : decode b_Md_isIn 12 = .ok (.goto 4, 3) := by decide +kernel
theorem d_Md_isIn_15 : decode b_Md_isIn 15 = .ok (.iconst 0, 1) := by decide +kernel
theorem d_Md_isIn_16 : decode b_Md_isIn 16 = .ok (.ireturn, 1) := by decide +kernel
theorem d_Md_free_0 : decode b_Md_free 0 = .ok (.iconst 0, 1) := by decide +kernel
theorem d_Md_free_1 : decode b_Md_free 1 = .ok (.istore_n 1, 1) := by decide +kernel
theorem d_Md_free_2 : decode b_Md_free 2 = .ok (.iload_n 1, 1) := by decide +kernel
theorem d_Md_free_3 : decode b_Md_free 3 = .ok (.bipush 64, 2) := by decide +kernel
theorem d_Md_free_5 : decode b_Md_free 5 = .ok (.if_icmp .ge 18, 3) := by decide +kernel
theorem d_Md_free_8 : decode b_Md_free 8 = .ok (.aload_n 0, 1) := by decide +kernel
theorem d_Md_free_9 : decode b_Md_free 9 = .ok (.getfield 7, 3) := by decide +kernel
theorem d_Md_free_12 : decode b_Md_free 12 = .ok (.iload_n 1, 1) := by decide +kernel
theorem d_Md_free_13 : decode b_Md_free 13 = .ok (.baload, 1) := by decide +kernel
theorem d_Md_free_14 : decode b_Md_free 14 = .ok (.ifCond .eq 9, 3) := by decide +kernel
theorem d_Md_free_17 : decode b_Md_free 17 = .ok (.iinc 1 1, 3) := by decide +kernel
theorem d_Md_free_20 : decode b_Md_free 20 = .ok (.goto (-18), 3) := by decide +kernel
theorem d_Md_free_23 : decode b_Md_free 23 = .ok (.iload_n 1, 1) := by decide +kernel
theorem d_Md_free_24 : decode b_Md_free 24 = .ok (.bipush 64, 2) := by decide +kernel
theorem d_Md_free_26 : decode b_Md_free 26 = .ok (.if_icmp .ge 7, 3) := by decide +kernel
theorem d_Md_free_29 : decode b_Md_free 29 = .ok (.iload_n 1, 1) := by decide +kernel
theorem d_Md_free_30 : decode b_Md_free 30 = .ok (.goto 4, 3) := by decide +kernel
theorem d_Md_free_33 : decode b_Md_free 33 = .ok (.iconst (-1), 1) := by decide +kernel
theorem d_Md_free_34 : decode b_Md_free 34 = .ok (.ireturn, 1) := by decide +kernel
theorem d_Md_isOn_0 : decode b_Md_isOn 0 = .ok (.aload_n 0, 1) := by decide +kernel
theorem d_Md_isOn_1 : decode b_Md_isOn 1 = .ok (.getfield 13, 3) := by decide +kernel
theorem d_Md_isOn_4 : decode b_Md_isOn 4 = .ok (.iload_n 1, 1) := by decide +kernel
theorem d_Md_isOn_5 : decode b_Md_isOn 5 = .ok (.iaload, 1) := by decide +kernel
theorem d_Md_isOn_6 : decode b_Md_isOn 6 = .ok (.aload_n 0, 1) := by decide +kernel
theorem d_Md_isOn_7 : decode b_Md_isOn 7 = .ok (.getfield 20, 3) := by decide +kernel
theorem d_Md_isOn_10 : decode b_Md_isOn 10 = .ok (.iload_n 1, 1) := by decide +kernel
theorem d_Md_isOn_11 : decode b_Md_isOn 11 = .ok (.iaload, 1) := by decide +kernel
theorem d_Md_isOn_12 : decode b_Md_isOn 12 = .ok (.if_icmp .ge 12, 3) := by decide +kernel
theorem d_Md_isOn_15 : decode b_Md_isOn 15 = .ok (.aload_n 0, 1) := by decide +kernel
theorem d_Md_isOn_16 : decode b_Md_isOn 16 = .ok (.getfield 13, 3) := by decide +kernel
theorem d_Md_isOn_19 : decode b_Md_isOn 19 = .ok (.iload_n 1, 1) := by decide +kernel
theorem d_Md_isOn_20 : decode b_Md_isOn 20 = .ok (.iaload, 1) := by decide +kernel
theorem d_Md_isOn_21 : decode b_Md_isOn 21 = .ok (.goto 9, 3) := by decide +kernel
theorem d_Md_isOn_24 : decode b_Md_isOn 24 = .ok (.aload_n 0, 1) := by decide +kernel
theorem d_Md_isOn_25 : decode b_Md_isOn 25 = .ok (.getfield 20, 3) := by decide +kernel
theorem d_Md_isOn_28 : decode b_Md_isOn 28 = .ok (.iload_n 1, 1) := by decide +kernel
theorem d_Md_isOn_29 : decode b_Md_isOn 29 = .ok (.iaload, 1) := by decide +kernel
theorem d_Md_isOn_30 : decode b_Md_isOn 30 = .ok (.istore 4, 2) := by decide +kernel
theorem d_Md_isOn_32 : decode b_Md_isOn 32 = .ok (.aload_n 0, 1) := by decide +kernel
theorem d_Md_isOn_33 : decode b_Md_isOn 33 = .ok (.getfield 13, 3) := by decide +kernel
theorem d_Md_isOn_36 : decode b_Md_isOn 36 = .ok (.iload_n 1, 1) := by decide +kernel
theorem d_Md_isOn_37 : decode b_Md_isOn 37 = .ok (.iaload, 1) := by decide +kernel
theorem d_Md_isOn_38 : decode b_Md_isOn 38 = .ok (.aload_n 0, 1) := by decide +kernel
theorem d_Md_isOn_39 : decode b_Md_isOn 39 = .ok (.getfield 20, 3) := by decide +kernel
theorem d_Md_isOn_42 : decode b_Md_isOn 42 = .ok (.iload_n 1, 1) := by decide +kernel
theorem d_Md_isOn_43 : decode b_Md_isOn 43 = .ok (.iaload, 1) := by decide +kernel
theorem d_Md_isOn_44 : decode b_Md_isOn 44 = .ok (.if_icmp .ge 12, 3) := by decide +kernel
theorem d_Md_isOn_47 : decode b_Md_isOn 47 = .ok (.aload_n 0, 1) := by decide +kernel
theorem d_Md_isOn_48 : decode b_Md_isOn 48 = .ok (.getfield 20, 3) := by decide +kernel
theorem d_Md_isOn_51 : decode b_Md_isOn 51 = .ok (.iload_n 1, 1) := by decide +kernel
theorem d_Md_isOn_52 : decode b_Md_isOn 52 = .ok (.iaload, 1) := by decide +kernel
theorem d_Md_isOn_53 : decode b_Md_isOn 53 = .ok (.goto 9, 3) := by decide +kernel
theorem d_Md_isOn_56 : decode b_Md_isOn 56 = .ok (.aload_n 0, 1) := by decide +kernel
theorem d_Md_isOn_57 : decode b_Md_isOn 57 = .ok (.getfield 13, 3) := by decide +kernel
theorem d_Md_isOn_60 : decode b_Md_isOn 60 = .ok (.iload_n 1, 1) := by decide +kernel
theorem d_Md_isOn_61 : decode b_Md_isOn 61 = .ok (.iaload, 1) := by decide +kernel
theorem d_Md_isOn_62 : decode b_Md_isOn 62 = .ok (.istore 5, 2) := by decide +kernel
theorem d_Md_isOn_64 : decode b_Md_isOn 64 = .ok (.aload_n 0, 1) := by decide +kernel
theorem d_Md_isOn_65 : decode b_Md_isOn 65 = .ok (.getfield 17, 3) := by decide +kernel
theorem d_Md_isOn_68 : decode b_Md_isOn 68 = .ok (.iload_n 1, 1) := by decide +kernel
theorem d_Md_isOn_69 : decode b_Md_isOn 69 = .ok (.iaload, 1) := by decide +kernel
theorem d_Md_isOn_70 : decode b_Md_isOn 70 = .ok (.aload_n 0, 1) := by decide +kernel
theorem d_Md_isOn_71 : decode b_Md_isOn 71 = .ok (.getfield 23, 3) := by decide +kernel
theorem d_Md_isOn_74 : decode b_Md_isOn 74 = .ok (.iload_n 1, 1) := by decide +kernel
theorem d_Md_isOn_75 : decode b_Md_isOn 75 = .ok (.iaload, 1) := by decide +kernel
theorem d_Md_isOn_76 : decode b_Md_isOn 76 = .ok (.if_icmp .ge 12, 3) := by decide +kernel
theorem d_Md_isOn_79 : decode b_Md_isOn 79 = .ok (.aload_n 0, 1) := by decide +kernel
theorem d_Md_isOn_80 : decode b_Md_isOn 80 = .ok (.getfield 17, 3) := by decide +kernel
theorem d_Md_isOn_83 : decode b_Md_isOn 83 = .ok (.iload_n 1, 1) := by decide +kernel
theorem d_Md_isOn_84 : decode b_Md_isOn 84 = .ok (.iaload, 1) := by decide +kernel
theorem d_Md_isOn_85 : decode b_Md_isOn 85 = .ok (.goto 9, 3) := by decide +kernel
theorem d_Md_isOn_88 : decode b_Md_isOn 88 = .ok (.aload_n 0, 1) := by decide +kernel
theorem d_Md_isOn_89 : decode b_Md_isOn 89 = .ok (.getfield 23, 3) := by decide +kernel
theorem d_Md_isOn_92 : decode b_Md_isOn 92 = .ok (.iload_n 1, 1) := by decide +kernel
theorem d_Md_isOn_93 : decode b_Md_isOn 93 = .ok (.iaload, 1) := by decide +kernel
theorem d_Md_isOn_94 : decode b_Md_isOn 94 = .ok (.istore 6, 2) := by decide +kernel
theorem d_Md_isOn_96 : decode b_Md_isOn 96 = .ok (.aload_n 0, 1) := by decide +kernel
theorem d_Md_isOn_97 : decode b_Md_isOn 97 = .ok (.getfield 17, 3) := by decide +kernel
theorem d_Md_isOn_100 : decode b_Md_isOn 100 = .ok (.iload_n 1, 1) := by decide +kernel
theorem d_Md_isOn_101 : decode b_Md_isOn 101 = .ok (.iaload, 1) := by decide +kernel
theorem d_Md_isOn_102 : decode b_Md_isOn 102 = .ok (.aload_n 0, 1) := by decide +kernel
theorem d_Md_isOn_103 : decode b_Md_isOn 103 = .ok (.getfield 23, 3) := by decide +kernel
theorem d_Md_isOn_106 : decode b_Md_isOn 106 = .ok (.iload_n 1, 1) := by decide +kernel
theorem d_Md_isOn_107 : decode b_Md_isOn 107 = .ok (.iaload, 1) := by decide +kernel
theorem d_Md_isOn_108 : decode b_Md_isOn 108 = .ok (.if_icmp .ge 12, 3) := by decide +kernel
theorem d_Md_isOn_111 : decode b_Md_isOn 111 = .ok (.aload_n 0, 1) := by decide +kernel
theorem d_Md_isOn_112 : decode b_Md_isOn 112 = .ok (.getfield 23, 3) := by decide +kernel
theorem d_Md_isOn_115 : decode b_Md_isOn 115 = .ok (.iload_n 1, 1) := by decide +kernel
theorem d_Md_isOn_116 : decode b_Md_isOn 116 = .ok (.iaload, 1) := by decide +kernel
theorem d_Md_isOn_117 : decode b_Md_isOn 117 = .ok (.goto 9, 3) := by decide +kernel
theorem d_Md_isOn_120 : decode b_Md_isOn 120 = .ok (.aload_n 0, 1) := by decide +kernel
theorem d_Md_isOn_121 : decode b_Md_isOn 121 = .ok (.getfield 17, 3) := by decide +kernel
theorem d_Md_isOn_124 : decode b_Md_isOn 124 = .ok (.iload_n 1, 1) := by decide +kernel
theorem d_Md_isOn_125 : decode b_Md_isOn 125 = .ok (.iaload, 1) := by decide +kernel
theorem d_Md_isOn_126 : decode b_Md_isOn 126 = .ok (.istore 7, 2) := by decide +kernel
theorem d_Md_isOn_128 : decode b_Md_isOn 128 = .ok (.aload_n 0, 1) := by decide +kernel
theorem d_Md_isOn_129 : decode b_Md_isOn 129 = .ok (.getfield 20, 3) := by decide +kernel
theorem d_Md_isOn_132 : decode b_Md_isOn 132 = .ok (.iload_n 1, 1) := by decide +kernel
theorem d_Md_isOn_133 : decode b_Md_isOn 133 = .ok (.iaload, 1) := by decide +kernel
theorem d_Md_isOn_134 : decode b_Md_isOn 134 = .ok (.aload_n 0, 1) := by decide +kernel
theorem d_Md_isOn_135 : decode b_Md_isOn 135 = .ok (.getfield 13, 3) := by decide +kernel
theorem d_Md_isOn_138 : decode b_Md_isOn 138 = .ok (.iload_n 1, 1) := by decide +kernel
theorem d_Md_isOn_139 : decode b_Md_isOn 139 = .ok (.iaload, 1) := by decide +kernel
theorem d_Md_isOn_140 : decode b_Md_isOn 140 = .ok (.isub, 1) := by decide +kernel
theorem d_Md_isOn_141 : decode b_Md_isOn 141 = .ok (.i2l, 1) := by decide +kernel
theorem d_Md_isOn_142 : decode b_Md_isOn 142 = .ok (.aload_n 0, 1) := by decide +kernel
theorem d_Md_isOn_143 : decode b_Md_isOn 143 = .ok (.getfield 23, 3) := by decide +kernel
theorem d_Md_isOn_146 : decode b_Md_isOn 146 = .ok (.iload_n 1, 1) := by decide +kernel
theorem d_Md_isOn_147 : decode b_Md_isOn 147 = .ok (.iaload, 1) := by decide +kernel
theorem d_Md_isOn_148 : decode b_Md_isOn 148 = .ok (.aload_n 0, 1) := by decide +kernel
theorem d_Md_isOn_149 : decode b_Md_isOn 149 = .ok (.getfield 17, 3) := by decide +kernel
theorem d_Md_isOn_152 : decode b_Md_isOn 152 = .ok (.iload_n 1, 1) := by decide +kernel
theorem d_Md_isOn_153 : decode b_Md_isOn 153 = .ok (.iaload, 1) := by decide +kernel
theorem d_Md_isOn_154 : decode b_Md_isOn 154 = .ok (.isub, 1) := by decide +kernel
theorem d_Md_isOn_155 : decode b_Md_isOn 155 = .ok (.i2l, 1) := by decide +kernel
theorem d_Md_isOn_156 : decode b_Md_isOn 156 = .ok (.iload_n 2, 1) := by decide +kernel
theorem d_Md_isOn_157 : decode b_Md_isOn 157 = .ok (.aload_n 0, 1) := by decide +kernel
theorem d_Md_isOn_158 : decode b_Md_isOn 158 = .ok (.getfield 13, 3) := by decide +kernel
theorem d_Md_isOn_161 : decode b_Md_isOn 161 = .ok (.iload_n 1, 1) := by decide +kernel
theorem d_Md_isOn_162 : decode b_Md_isOn 162 = .ok (.iaload, 1) := by decide +kernel
theorem d_Md_isOn_163 : decode b_Md_isOn 163 = .ok (.isub, 1) := by decide +kernel
theorem d_Md_isOn_164 : decode b_Md_isOn 164 = .ok (.i2l, 1) := by decide +kernel
theorem d_Md_isOn_165 : decode b_Md_isOn 165 = .ok (.iload_n 3, 1) := by decide +kernel
theorem d_Md_isOn_166 : decode b_Md_isOn 166 = .ok (.aload_n 0, 1) := by decide +kernel
theorem d_Md_isOn_167 : decode b_Md_isOn 167 = .ok (.getfield 17, 3) := by decide +kernel
theorem d_Md_isOn_170 : decode b_Md_isOn 170 = .ok (.iload_n 1, 1) := by decide +kernel
theorem d_Md_isOn_171 : decode b_Md_isOn 171 = .ok (.iaload, 1) := by decide +kernel
theorem d_Md_isOn_172 : decode b_Md_isOn 172 = .ok (.isub, 1) := by decide +kernel
theorem d_Md_isOn_173 : decode b_Md_isOn 173 = .ok (.i2l, 1) := by decide +kernel
theorem d_Md_isOn_174 : decode b_Md_isOn 174 = .ok (.invokestatic 33, 3) := by decide +kernel
theorem d_Md_isOn_177 : decode b_Md_isOn 177 = .ok (.lconst 0, 1) := by decide +kernel
theorem d_Md_isOn_178 : decode b_Md_isOn 178 = .ok (.lcmp, 1) := by decide +kernel
theorem d_Md_isOn_179 : decode b_Md_isOn 179 = .ok (.ifCond .ne 31, 3) := by decide +kernel
theorem d_Md_isOn_182 : decode b_Md_isOn 182 = .ok (.iload_n 2, 1) := by decide +kernel
theorem d_Md_isOn_183 : decode b_Md_isOn 183 = .ok (.iload 4, 2) := by decide +kernel
theorem d_Md_isOn_185 : decode b_Md_isOn 185 = .ok (.if_icmp .lt 25, 3) := by decide +kernel
theorem d_Md_isOn_188 : decode b_Md_isOn 188 = .ok (.iload_n 2, 1) := by decide +kernel
theorem d_Md_isOn_189 : decode b_Md_isOn 189 = .ok (.iload 5, 2) := by decide +kernel
theorem d_Md_isOn_191 : decode b_Md_isOn 191 = .ok (.if_icmp .gt 19, 3) := by decide +kernel
theorem d_Md_isOn_194 : decode b_Md_isOn 194 = .ok (.iload_n 3, 1) := by decide +kernel
theorem d_Md_isOn_195 : decode b_Md_isOn 195 = .ok (.iload 6, 2) := by decide +kernel
theorem d_Md_isOn_197 : decode b_Md_isOn 197 = .ok (.if_icmp .lt 13, 3) := by decide +kernel
theorem d_Md_isOn_200 : decode b_Md_isOn 200 = .ok (.iload_n 3, 1) := by decide +kernel
theorem d_Md_isOn_201 : decode b_Md_isOn 201 = .ok (.iload 7, 2) := by decide +kernel
theorem d_Md_isOn_203 : decode b_Md_isOn 203 = .ok (.if_icmp .gt 7, 3) := by decide +kernel
theorem d_Md_isOn_206 : decode b_Md_isOn 206 = .ok (.iconst 1, 1) := by decide +kernel
theorem d_Md_isOn_207 : decode b_Md_isOn 207 = .ok (.goto 4, 3) := by decide +kernel
theorem d_Md_isOn_210 : decode b_Md_isOn 210 = .ok (.iconst 0, 1) := by decide +kernel
theorem d_Md_isOn_211 : decode b_Md_isOn 211 = .ok (.ireturn, 1) := by decide +kernel
theorem d_Md_isEnd_0 : decode b_Md_isEnd 0 = .ok (.aload_n 0, 1) := by decide +kernel
theorem d_Md_isEnd_1 : decode b_Md_isEnd 1 = .ok (.getfield 13, 3) := by decide +kernel
theorem d_Md_isEnd_4 : decode b_Md_isEnd 4 = .ok (.iload_n 1, 1) := by decide +kernel
theorem d_Md_isEnd_5 : decode b_Md_isEnd 5 = .ok (.iaload, 1) := by decide +kernel
theorem d_Md_isEnd_6 : decode b_Md_isEnd 6 = .ok (.iload_n 2, 1) := by decide +kernel
theorem d_Md_isEnd_7 : decode b_Md_isEnd 7 = .ok (.if_icmp .ne 13, 3) := by decide +kernel
theorem d_Md_isEnd_10 : decode b_Md_isEnd 10 = .ok (.aload_n 0, 1) := by decide +kernel
theorem d_Md_isEnd_11 : decode b_Md_isEnd 11 = .ok (.getfield 17, 3) := by decide +kernel
theorem d_Md_isEnd_14 : decode b_Md_isEnd 14 = .ok (.iload_n 1, 1) := by decide +kernel
theorem d_Md_isEnd_15 : decode b_Md_isEnd 15 = .ok (.iaload, 1) := by decide +kernel
theorem d_Md_isEnd_16 : decode b_Md_isEnd 16 = .ok (.iload_n 3, 1) := by decide +kernel
theorem d_Md_isEnd_17 : decode b_Md_isEnd 17 = .ok (.if_icmp .eq 23, 3) := by decide +kernel
theorem d_Md_isEnd_20 : decode b_Md_isEnd 20 = .ok (.aload_n 0, 1) := by decide +kernel
theorem d_Md_isEnd_21 : decode b_Md_isEnd 21 = .ok (.getfield 20, 3) := by decide +kernel
theorem d_Md_isEnd_24 : decode b_Md_isEnd 24 = .ok (.iload_n 1, 1) := by decide +kernel
theorem d_Md_isEnd_25 : decode b_Md_isEnd 25 = .ok (.iaload, 1) := by decide +kernel
theorem d_Md_isEnd_26 : decode b_Md_isEnd 26 = .ok (.iload_n 2, 1) := by decide +kernel
theorem d_Md_isEnd_27 : decode b_Md_isEnd 27 = .ok (.if_icmp .ne 17, 3) := by decide +kernel
theorem d_Md_isEnd_30 : decode b_Md_isEnd 30 = .ok (.aload_n 0, 1) := by decide +kernel
theorem d_Md_isEnd_31 : decode b_Md_isEnd 31 = .ok (.getfield 23, 3) := by decide +kernel
theorem d_Md_isEnd_34 : decode b_Md_isEnd 34 = .ok (.iload_n 1, 1) := by decide +kernel
theorem d_Md_isEnd_35 : decode b_Md_isEnd 35 = .ok (.iaload, 1) := by decide +kernel
theorem d_Md_isEnd_36 : decode b_Md_isEnd 36 = .ok (.iload_n 3, 1) := by decide +kernel
theorem d_Md_isEnd_37 : decode b_Md_isEnd 37 = .ok (.if_icmp .ne 7, 3) := by decide +kernel
theorem d_Md_isEnd_40 : decode b_Md_isEnd 40 = .ok (.iconst 1, 1) := by decide +kernel
theorem d_Md_isEnd_41 : decode b_Md_isEnd 41 = .ok (.goto 4, 3) := by decide +kernel
theorem d_Md_isEnd_44 : decode b_Md_isEnd 44 = .ok (.iconst 0, 1) := by decide +kernel
theorem d_Md_isEnd_45 : decode b_Md_isEnd 45 = .ok (.ireturn, 1) := by decide +kernel
theorem d_Md_areApart_0 : decode b_Md_areApart 0 = .ok (.aload_n 0, 1) := by decide +kernel
theorem d_Md_areApart_1 : decode b_Md_areApart 1 = .ok (.getfield 20, 3) := by decide +kernel
theorem d_Md_areApart_4 : decode b_Md_areApart 4 = .ok (.iload_n 1, 1) := by decide +kernel
theorem d_Md_areApart_5 : decode b_Md_areApart 5 = .ok (.iaload, 1) := by decide +kernel
theorem d_Md_areApart_6 : decode b_Md_areApart 6 = .ok (.aload_n 0, 1) := by decide +kernel
theorem d_Md_areApart_7 : decode b_Md_areApart 7 = .ok (.getfield 13, 3) := by decide +kernel
theorem d_Md_areApart_10 : decode b_Md_areApart 10 = .ok (.iload_n 1, 1) := by decide +kernel
theorem d_Md_areApart_11 : decode b_Md_areApart 11 = .ok (.iaload, 1) := by decide +kernel
theorem d_Md_areApart_12 : decode b_Md_areApart 12 = .ok (.isub, 1) := by decide +kernel
theorem d_Md_areApart_13 : decode b_Md_areApart 13 = .ok (.i2l, 1) := by decide +kernel
theorem d_Md_areApart_14 : decode b_Md_areApart 14 = .ok (.aload_n 0, 1) := by decide +kernel
theorem d_Md_areApart_15 : decode b_Md_areApart 15 = .ok (.getfield 23, 3) := by decide +kernel
theorem d_Md_areApart_18 : decode b_Md_areApart 18 = .ok (.iload_n 1, 1) := by decide +kernel
theorem d_Md_areApart_19 : decode b_Md_areApart 19 = .ok (.iaload, 1) := by decide +kernel
theorem d_Md_areApart_20 : decode b_Md_areApart 20 = .ok (.aload_n 0, 1) := by decide +kernel
theorem d_Md_areApart_21 : decode b_Md_areApart 21 = .ok (.getfield 17, 3) := by decide +kernel
theorem d_Md_areApart_24 : decode b_Md_areApart 24 = .ok (.iload_n 1, 1) := by decide +kernel
theorem d_Md_areApart_25 : decode b_Md_areApart 25 = .ok (.iaload, 1) := by decide +kernel
theorem d_Md_areApart_26 : decode b_Md_areApart 26 = .ok (.isub, 1) := by decide +kernel
theorem d_Md_areApart_27 : decode b_Md_areApart 27 = .ok (.i2l, 1) := by decide +kernel
theorem d_Md_areApart_28 : decode b_Md_areApart 28 = .ok (.aload_n 0, 1) := by decide +kernel
theorem d_Md_areApart_29 : decode b_Md_areApart 29 = .ok (.getfield 13, 3) := by decide +kernel
theorem d_Md_areApart_32 : decode b_Md_areApart 32 = .ok (.iload_n 2, 1) := by decide +kernel
theorem d_Md_areApart_33 : decode b_Md_areApart 33 = .ok (.iaload, 1) := by decide +kernel
theorem d_Md_areApart_34 : decode b_Md_areApart 34 = .ok (.aload_n 0, 1) := by decide +kernel
theorem d_Md_areApart_35 : decode b_Md_areApart 35 = .ok (.getfield 13, 3) := by decide +kernel
theorem d_Md_areApart_38 : decode b_Md_areApart 38 = .ok (.iload_n 1, 1) := by decide +kernel
theorem d_Md_areApart_39 : decode b_Md_areApart 39 = .ok (.iaload, 1) := by decide +kernel
theorem d_Md_areApart_40 : decode b_Md_areApart 40 = .ok (.isub, 1) := by decide +kernel
theorem d_Md_areApart_41 : decode b_Md_areApart 41 = .ok (.i2l, 1) := by decide +kernel
theorem d_Md_areApart_42 : decode b_Md_areApart 42 = .ok (.aload_n 0, 1) := by decide +kernel
theorem d_Md_areApart_43 : decode b_Md_areApart 43 = .ok (.getfield 17, 3) := by decide +kernel
theorem d_Md_areApart_46 : decode b_Md_areApart 46 = .ok (.iload_n 2, 1) := by decide +kernel
theorem d_Md_areApart_47 : decode b_Md_areApart 47 = .ok (.iaload, 1) := by decide +kernel
theorem d_Md_areApart_48 : decode b_Md_areApart 48 = .ok (.aload_n 0, 1) := by decide +kernel
theorem d_Md_areApart_49 : decode b_Md_areApart 49 = .ok (.getfield 17, 3) := by decide +kernel
theorem d_Md_areApart_52 : decode b_Md_areApart 52 = .ok (.iload_n 1, 1) := by decide +kernel
theorem d_Md_areApart_53 : decode b_Md_areApart 53 = .ok (.iaload, 1) := by decide +kernel
theorem d_Md_areApart_54 : decode b_Md_areApart 54 = .ok (.isub, 1) := by decide +kernel
theorem d_Md_areApart_55 : decode b_Md_areApart 55 = .ok (.i2l, 1) := by decide +kernel
theorem d_Md_areApart_56 : decode b_Md_areApart 56 = .ok (.invokestatic 33, 3) := by decide +kernel
theorem d_Md_areApart_59 : decode b_Md_areApart 59 = .ok (.lstore_n 3, 1) := by decide +kernel
theorem d_Md_areApart_60 : decode b_Md_areApart 60 = .ok (.aload_n 0, 1) := by decide +kernel
theorem d_Md_areApart_61 : decode b_Md_areApart 61 = .ok (.getfield 20, 3) := by decide +kernel
theorem d_Md_areApart_64 : decode b_Md_areApart 64 = .ok (.iload_n 1, 1) := by decide +kernel
theorem d_Md_areApart_65 : decode b_Md_areApart 65 = .ok (.iaload, 1) := by decide +kernel
theorem d_Md_areApart_66 : decode b_Md_areApart 66 = .ok (.aload_n 0, 1) := by decide +kernel
theorem d_Md_areApart_67 : decode b_Md_areApart 67 = .ok (.getfield 13, 3) := by decide +kernel
theorem d_Md_areApart_70 : decode b_Md_areApart 70 = .ok (.iload_n 1, 1) := by decide +kernel
theorem d_Md_areApart_71 : decode b_Md_areApart 71 = .ok (.iaload, 1) := by decide +kernel
theorem d_Md_areApart_72 : decode b_Md_areApart 72 = .ok (.isub, 1) := by decide +kernel
theorem d_Md_areApart_73 : decode b_Md_areApart 73 = .ok (.i2l, 1) := by decide +kernel
theorem d_Md_areApart_74 : decode b_Md_areApart 74 = .ok (.aload_n 0, 1) := by decide +kernel
theorem d_Md_areApart_75 : decode b_Md_areApart 75 = .ok (.getfield 23, 3) := by decide +kernel
theorem d_Md_areApart_78 : decode b_Md_areApart 78 = .ok (.iload_n 1, 1) := by decide +kernel
theorem d_Md_areApart_79 : decode b_Md_areApart 79 = .ok (.iaload, 1) := by decide +kernel
theorem d_Md_areApart_80 : decode b_Md_areApart 80 = .ok (.aload_n 0, 1) := by decide +kernel
theorem d_Md_areApart_81 : decode b_Md_areApart 81 = .ok (.getfield 17, 3) := by decide +kernel
theorem d_Md_areApart_84 : decode b_Md_areApart 84 = .ok (.iload_n 1, 1) := by decide +kernel
theorem d_Md_areApart_85 : decode b_Md_areApart 85 = .ok (.iaload, 1) := by decide +kernel
theorem d_Md_areApart_86 : decode b_Md_areApart 86 = .ok (.isub, 1) := by decide +kernel
theorem d_Md_areApart_87 : decode b_Md_areApart 87 = .ok (.i2l, 1) := by decide +kernel
theorem d_Md_areApart_88 : decode b_Md_areApart 88 = .ok (.aload_n 0, 1) := by decide +kernel
theorem d_Md_areApart_89 : decode b_Md_areApart 89 = .ok (.getfield 20, 3) := by decide +kernel
theorem d_Md_areApart_92 : decode b_Md_areApart 92 = .ok (.iload_n 2, 1) := by decide +kernel
theorem d_Md_areApart_93 : decode b_Md_areApart 93 = .ok (.iaload, 1) := by decide +kernel
theorem d_Md_areApart_94 : decode b_Md_areApart 94 = .ok (.aload_n 0, 1) := by decide +kernel
theorem d_Md_areApart_95 : decode b_Md_areApart 95 = .ok (.getfield 13, 3) := by decide +kernel
theorem d_Md_areApart_98 : decode b_Md_areApart 98 = .ok (.iload_n 1, 1) := by decide +kernel
theorem d_Md_areApart_99 : decode b_Md_areApart 99 = .ok (.iaload, 1) := by decide +kernel
theorem d_Md_areApart_100 : decode b_Md_areApart 100 = .ok (.isub, 1) := by decide +kernel
theorem d_Md_areApart_101 : decode b_Md_areApart 101 = .ok (.i2l, 1) := by decide +kernel
theorem d_Md_areApart_102 : decode b_Md_areApart 102 = .ok (.aload_n 0, 1) := by decide +kernel
theorem d_Md_areApart_103 : decode b_Md_areApart 103 = .ok (.getfield 23, 3) := by decide +kernel
theorem d_Md_areApart_106 : decode b_Md_areApart 106 = .ok (.iload_n 2, 1) := by decide +kernel
theorem d_Md_areApart_107 : decode b_Md_areApart 107 = .ok (.iaload, 1) := by decide +kernel
theorem d_Md_areApart_108 : decode b_Md_areApart 108 = .ok (.aload_n 0, 1) := by decide +kernel
theorem d_Md_areApart_109 : decode b_Md_areApart 109 = .ok (.getfield 17, 3) := by decide +kernel
theorem d_Md_areApart_112 : decode b_Md_areApart 112 = .ok (.iload_n 1, 1) := by decide +kernel
theorem d_Md_areApart_113 : decode b_Md_areApart 113 = .ok (.iaload, 1) := by decide +kernel
theorem d_Md_areApart_114 : decode b_Md_areApart 114 = .ok (.isub, 1) := by decide +kernel
theorem d_Md_areApart_115 : decode b_Md_areApart 115 = .ok (.i2l, 1) := by decide +kernel
theorem d_Md_areApart_116 : decode b_Md_areApart 116 = .ok (.invokestatic 33, 3) := by decide +kernel
theorem d_Md_areApart_119 : decode b_Md_areApart 119 = .ok (.lstore 5, 2) := by decide +kernel
theorem d_Md_areApart_121 : decode b_Md_areApart 121 = .ok (.aload_n 0, 1) := by decide +kernel
theorem d_Md_areApart_122 : decode b_Md_areApart 122 = .ok (.getfield 20, 3) := by decide +kernel
theorem d_Md_areApart_125 : decode b_Md_areApart 125 = .ok (.iload_n 2, 1) := by decide +kernel
theorem d_Md_areApart_126 : decode b_Md_areApart 126 = .ok (.iaload, 1) := by decide +kernel
theorem d_Md_areApart_127 : decode b_Md_areApart 127 = .ok (.aload_n 0, 1) := by decide +kernel
theorem d_Md_areApart_128 : decode b_Md_areApart 128 = .ok (.getfield 13, 3) := by decide +kernel
theorem d_Md_areApart_131 : decode b_Md_areApart 131 = .ok (.iload_n 2, 1) := by decide +kernel
theorem d_Md_areApart_132 : decode b_Md_areApart 132 = .ok (.iaload, 1) := by decide +kernel
theorem d_Md_areApart_133 : decode b_Md_areApart 133 = .ok (.isub, 1) := by decide +kernel
theorem d_Md_areApart_134 : decode b_Md_areApart 134 = .ok (.i2l, 1) := by decide +kernel
theorem d_Md_areApart_135 : decode b_Md_areApart 135 = .ok (.aload_n 0, 1) := by decide +kernel
theorem d_Md_areApart_136 : decode b_Md_areApart 136 = .ok (.getfield 23, 3) := by decide +kernel
theorem d_Md_areApart_139 : decode b_Md_areApart 139 = .ok (.iload_n 2, 1) := by decide +kernel
theorem d_Md_areApart_140 : decode b_Md_areApart 140 = .ok (.iaload, 1) := by decide +kernel
theorem d_Md_areApart_141 : decode b_Md_areApart 141 = .ok (.aload_n 0, 1) := by decide +kernel
theorem d_Md_areApart_142 : decode b_Md_areApart 142 = .ok (.getfield 17, 3) := by decide +kernel
theorem d_Md_areApart_145 : decode b_Md_areApart 145 = .ok (.iload_n 2, 1) := by decide +kernel
theorem d_Md_areApart_146 : decode b_Md_areApart 146 = .ok (.iaload, 1) := by decide +kernel
theorem d_Md_areApart_147 : decode b_Md_areApart 147 = .ok (.isub, 1) := by decide +kernel
theorem d_Md_areApart_148 : decode b_Md_areApart 148 = .ok (.i2l, 1) := by decide +kernel
theorem d_Md_areApart_149 : decode b_Md_areApart 149 = .ok (.aload_n 0, 1) := by decide +kernel
theorem d_Md_areApart_150 : decode b_Md_areApart 150 = .ok (.getfield 13, 3) := by decide +kernel
theorem d_Md_areApart_153 : decode b_Md_areApart 153 = .ok (.iload_n 1, 1) := by decide +kernel
theorem d_Md_areApart_154 : decode b_Md_areApart 154 = .ok (.iaload, 1) := by decide +kernel
theorem d_Md_areApart_155 : decode b_Md_areApart 155 = .ok (.aload_n 0, 1) := by decide +kernel
theorem d_Md_areApart_156 : decode b_Md_areApart 156 = .ok (.getfield 13, 3) := by decide +kernel
theorem d_Md_areApart_159 : decode b_Md_areApart 159 = .ok (.iload_n 2, 1) := by decide +kernel
theorem d_Md_areApart_160 : decode b_Md_areApart 160 = .ok (.iaload, 1) := by decide +kernel
theorem d_Md_areApart_161 : decode b_Md_areApart 161 = .ok (.isub, 1) := by decide +kernel
theorem d_Md_areApart_162 : decode b_Md_areApart 162 = .ok (.i2l, 1) := by decide +kernel
theorem d_Md_areApart_163 : decode b_Md_areApart 163 = .ok (.aload_n 0, 1) := by decide +kernel
theorem d_Md_areApart_164 : decode b_Md_areApart 164 = .ok (.getfield 17, 3) := by decide +kernel
theorem d_Md_areApart_167 : decode b_Md_areApart 167 = .ok (.iload_n 1, 1) := by decide +kernel
theorem d_Md_areApart_168 : decode b_Md_areApart 168 = .ok (.iaload, 1) := by decide +kernel
theorem d_Md_areApart_169 : decode b_Md_areApart 169 = .ok (.aload_n 0, 1) := by decide +kernel
theorem d_Md_areApart_170 : decode b_Md_areApart 170 = .ok (.getfield 17, 3) := by decide +kernel
theorem d_Md_areApart_173 : decode b_Md_areApart 173 = .ok (.iload_n 2, 1) := by decide +kernel
theorem d_Md_areApart_174 : decode b_Md_areApart 174 = .ok (.iaload, 1) := by decide +kernel
theorem d_Md_areApart_175 : decode b_Md_areApart 175 = .ok (.isub, 1) := by decide +kernel
theorem d_Md_areApart_176 : decode b_Md_areApart 176 = .ok (.i2l, 1) := by decide +kernel
theorem d_Md_areApart_177 : decode b_Md_areApart 177 = .ok (.invokestatic 33, 3) := by decide +kernel
theorem d_Md_areApart_180 : decode b_Md_areApart 180 = .ok (.lstore 7, 2) := by decide +kernel
theorem d_Md_areApart_182 : decode b_Md_areApart 182 = .ok (.aload_n 0, 1) := by decide +kernel
theorem d_Md_areApart_183 : decode b_Md_areApart 183 = .ok (.getfield 20, 3) := by decide +kernel
theorem d_Md_areApart_186 : decode b_Md_areApart 186 = .ok (.iload_n 2, 1) := by decide +kernel
theorem d_Md_areApart_187 : decode b_Md_areApart 187 = .ok (.iaload, 1) := by decide +kernel
theorem d_Md_areApart_188 : decode b_Md_areApart 188 = .ok (.aload_n 0, 1) := by decide +kernel
theorem d_Md_areApart_189 : decode b_Md_areApart 189 = .ok (.getfield 13, 3) := by decide +kernel
theorem d_Md_areApart_192 : decode b_Md_areApart 192 = .ok (.iload_n 2, 1) := by decide +kernel
theorem d_Md_areApart_193 : decode b_Md_areApart 193 = .ok (.iaload, 1) := by decide +kernel
theorem d_Md_areApart_194 : decode b_Md_areApart 194 = .ok (.isub, 1) := by decide +kernel
theorem d_Md_areApart_195 : decode b_Md_areApart 195 = .ok (.i2l, 1) := by decide +kernel
theorem d_Md_areApart_196 : decode b_Md_areApart 196 = .ok (.aload_n 0, 1) := by decide +kernel
theorem d_Md_areApart_197 : decode b_Md_areApart 197 = .ok (.getfield 23, 3) := by decide +kernel
theorem d_Md_areApart_200 : decode b_Md_areApart 200 = .ok (.iload_n 2, 1) := by decide +kernel
theorem d_Md_areApart_201 : decode b_Md_areApart 201 = .ok (.iaload, 1) := by decide +kernel
theorem d_Md_areApart_202 : decode b_Md_areApart 202 = .ok (.aload_n 0, 1) := by decide +kernel
theorem d_Md_areApart_203 : decode b_Md_areApart 203 = .ok (.getfield 17, 3) := by decide +kernel
theorem d_Md_areApart_206 : decode b_Md_areApart 206 = .ok (.iload_n 2, 1) := by decide +kernel
theorem d_Md_areApart_207 : decode b_Md_areApart 207 = .ok (.iaload, 1) := by decide +kernel
theorem d_Md_areApart_208 : decode b_Md_areApart 208 = .ok (.isub, 1) := by decide +kernel
theorem d_Md_areApart_209 : decode b_Md_areApart 209 = .ok (.i2l, 1) := by decide +kernel
theorem d_Md_areApart_210 : decode b_Md_areApart 210 = .ok (.aload_n 0, 1) := by decide +kernel
theorem d_Md_areApart_211 : decode b_Md_areApart 211 = .ok (.getfield 20, 3) := by decide +kernel
theorem d_Md_areApart_214 : decode b_Md_areApart 214 = .ok (.iload_n 1, 1) := by decide +kernel
theorem d_Md_areApart_215 : decode b_Md_areApart 215 = .ok (.iaload, 1) := by decide +kernel
theorem d_Md_areApart_216 : decode b_Md_areApart 216 = .ok (.aload_n 0, 1) := by decide +kernel
theorem d_Md_areApart_217 : decode b_Md_areApart 217 = .ok (.getfield 13, 3) := by decide +kernel
theorem d_Md_areApart_220 : decode b_Md_areApart 220 = .ok (.iload_n 2, 1) := by decide +kernel
theorem d_Md_areApart_221 : decode b_Md_areApart 221 = .ok (.iaload, 1) := by decide +kernel
theorem d_Md_areApart_222 : decode b_Md_areApart 222 = .ok (.isub, 1) := by decide +kernel
theorem d_Md_areApart_223 : decode b_Md_areApart 223 = .ok (.i2l, 1) := by decide +kernel
theorem d_Md_areApart_224 : decode b_Md_areApart 224 = .ok (.aload_n 0, 1) := by decide +kernel
theorem d_Md_areApart_225 : decode b_Md_areApart 225 = .ok (.getfield 23, 3) := by decide +kernel
theorem d_Md_areApart_228 : decode b_Md_areApart 228 = .ok (.iload_n 1, 1) := by decide +kernel
theorem d_Md_areApart_229 : decode b_Md_areApart 229 = .ok (.iaload, 1) := by decide +kernel
theorem d_Md_areApart_230 : decode b_Md_areApart 230 = .ok (.aload_n 0, 1) := by decide +kernel
theorem d_Md_areApart_231 : decode b_Md_areApart 231 = .ok (.getfield 17, 3) := by decide +kernel
theorem d_Md_areApart_234 : decode b_Md_areApart 234 = .ok (.iload_n 2, 1) := by decide +kernel
theorem d_Md_areApart_235 : decode b_Md_areApart 235 = .ok (.iaload, 1) := by decide +kernel
theorem d_Md_areApart_236 : decode b_Md_areApart 236 = .ok (.isub, 1) := by decide +kernel
theorem d_Md_areApart_237 : decode b_Md_areApart 237 = .ok (.i2l, 1) := by decide +kernel
theorem d_Md_areApart_238 : decode b_Md_areApart 238 = .ok (.invokestatic 33, 3) := by decide +kernel
theorem d_Md_areApart_241 : decode b_Md_areApart 241 = .ok (.lstore 9, 2) := by decide +kernel
theorem d_Md_areApart_243 : decode b_Md_areApart 243 = .ok (.lload_n 3, 1) := by decide +kernel
theorem d_Md_areApart_244 : decode b_Md_areApart 244 = .ok (.lconst 0, 1) := by decide +kernel
theorem d_Md_areApart_245 : decode b_Md_areApart 245 = .ok (.lcmp, 1) := by decide +kernel
theorem d_Md_areApart_246 : decode b_Md_areApart 246 = .ok (.ifCond .ge 10, 3) := by decide +kernel
theorem d_Md_areApart_249 : decode b_Md_areApart 249 = .ok (.lload 5, 2) := by decide +kernel
theorem d_Md_areApart_251 : decode b_Md_areApart 251 = .ok (.lconst 0, 1) := by decide +kernel
theorem d_Md_areApart_252 : decode b_Md_areApart 252 = .ok (.lcmp, 1) := by decide +kernel
theorem d_Md_areApart_253 : decode b_Md_areApart 253 = .ok (.ifCond .gt 16, 3) := by decide +kernel
theorem d_Md_areApart_256 : decode b_Md_areApart 256 = .ok (.lload_n 3, 1) := by decide +kernel
theorem d_Md_areApart_257 : decode b_Md_areApart 257 = .ok (.lconst 0, 1) := by decide +kernel
theorem d_Md_areApart_258 : decode b_Md_areApart 258 = .ok (.lcmp, 1) := by decide +kernel
theorem d_Md_areApart_259 : decode b_Md_areApart 259 = .ok (.ifCond .le 42, 3) := by decide +kernel
theorem d_Md_areApart_262 : decode b_Md_areApart 262 = .ok (.lload 5, 2) := by decide +kernel
theorem d_Md_areApart_264 : decode b_Md_areApart 264 = .ok (.lconst 0, 1) := by decide +kernel
theorem d_Md_areApart_265 : decode b_Md_areApart 265 = .ok (.lcmp, 1) := by decide +kernel
theorem d_Md_areApart_266 : decode b_Md_areApart 266 = .ok (.ifCond .ge 35, 3) := by decide +kernel
theorem d_Md_areApart_269 : decode b_Md_areApart 269 = .ok (.lload 7, 2) := by decide +kernel
theorem d_Md_areApart_271 : decode b_Md_areApart 271 = .ok (.lconst 0, 1) := by decide +kernel
theorem d_Md_areApart_272 : decode b_Md_areApart 272 = .ok (.lcmp, 1) := by decide +kernel
theorem d_Md_areApart_273 : decode b_Md_areApart 273 = .ok (.ifCond .ge 10, 3) := by decide +kernel
theorem d_Md_areApart_276 : decode b_Md_areApart 276 = .ok (.lload 9, 2) := by decide +kernel
theorem d_Md_areApart_278 : decode b_Md_areApart 278 = .ok (.lconst 0, 1) := by decide +kernel
theorem d_Md_areApart_279 : decode b_Md_areApart 279 = .ok (.lcmp, 1) := by decide +kernel
theorem d_Md_areApart_280 : decode b_Md_areApart 280 = .ok (.ifCond .gt 17, 3) := by decide +kernel
theorem d_Md_areApart_283 : decode b_Md_areApart 283 = .ok (.lload 7, 2) := by decide +kernel
theorem d_Md_areApart_285 : decode b_Md_areApart 285 = .ok (.lconst 0, 1) := by decide +kernel
theorem d_Md_areApart_286 : decode b_Md_areApart 286 = .ok (.lcmp, 1) := by decide +kernel
theorem d_Md_areApart_287 : decode b_Md_areApart 287 = .ok (.ifCond .le 14, 3) := by decide +kernel
theorem d_Md_areApart_290 : decode b_Md_areApart 290 = .ok (.lload 9, 2) := by decide +kernel
theorem d_Md_areApart_292 : decode b_Md_areApart 292 = .ok (.lconst 0, 1) := by decide +kernel
theorem d_Md_areApart_293 : decode b_Md_areApart 293 = .ok (.lcmp, 1) := by decide +kernel
theorem d_Md_areApart_294 : decode b_Md_areApart 294 = .ok (.ifCond .ge 7, 3) := by decide +kernel
theorem d_Md_areApart_297 : decode b_Md_areApart 297 = .ok (.iconst 1, 1) := by decide +kernel
theorem d_Md_areApart_298 : decode b_Md_areApart 298 = .ok (.goto 4, 3) := by decide +kernel
theorem d_Md_areApart_301 : decode b_Md_areApart 301 = .ok (.iconst 0, 1) := by decide +kernel
theorem d_Md_areApart_302 : decode b_Md_areApart 302 = .ok (.istore 11, 2) := by decide +kernel
theorem d_Md_areApart_304 : decode b_Md_areApart 304 = .ok (.aload_n 0, 1) := by decide +kernel
theorem d_Md_areApart_305 : decode b_Md_areApart 305 = .ok (.iload_n 2, 1) := by decide +kernel
theorem d_Md_areApart_306 : decode b_Md_areApart 306 = .ok (.aload_n 0, 1) := by decide +kernel
theorem d_Md_areApart_307 : decode b_Md_areApart 307 = .ok (.getfield 13, 3) := by decide +kernel
theorem d_Md_areApart_310 : decode b_Md_areApart 310 = .ok (.iload_n 1, 1) := by decide +kernel
theorem d_Md_areApart_311 : decode b_Md_areApart 311 = .ok (.iaload, 1) := by decide +kernel
theorem d_Md_areApart_312 : decode b_Md_areApart 312 = .ok (.aload_n 0, 1) := by decide +kernel
theorem d_Md_areApart_313 : decode b_Md_areApart 313 = .ok (.getfield 17, 3) := by decide +kernel
theorem d_Md_areApart_316 : decode b_Md_areApart 316 = .ok (.iload_n 1, 1) := by decide +kernel
theorem d_Md_areApart_317 : decode b_Md_areApart 317 = .ok (.iaload, 1) := by decide +kernel
theorem d_Md_areApart_318 : decode b_Md_areApart 318 = .ok (.invokevirtual 37, 3) := by decide +kernel
theorem d_Md_areApart_321 : decode b_Md_areApart 321 = .ok (.ifCond .eq 27, 3) := by decide +kernel
theorem d_Md_areApart_324 : decode b_Md_areApart 324 = .ok (.aload_n 0, 1) := by decide +kernel
theorem d_Md_areApart_325 : decode b_Md_areApart 325 = .ok (.iload_n 2, 1) := by decide +kernel
theorem d_Md_areApart_326 : decode b_Md_areApart 326 = .ok (.aload_n 0, 1) := by decide +kernel
theorem d_Md_areApart_327 : decode b_Md_areApart 327 = .ok (.getfield 20, 3) := by decide +kernel
theorem d_Md_areApart_330 : decode b_Md_areApart 330 = .ok (.iload_n 1, 1) := by decide +kernel
theorem d_Md_areApart_331 : decode b_Md_areApart 331 = .ok (.iaload, 1) := by decide +kernel
theorem d_Md_areApart_332 : decode b_Md_areApart 332 = .ok (.aload_n 0, 1) := by decide +kernel
theorem d_Md_areApart_333 : decode b_Md_areApart 333 = .ok (.getfield 23, 3) := by decide +kernel
theorem d_Md_areApart_336 : decode b_Md_areApart 336 = .ok (.iload_n 1, 1) := by decide +kernel
theorem d_Md_areApart_337 : decode b_Md_areApart 337 = .ok (.iaload, 1) := by decide +kernel
theorem d_Md_areApart_338 : decode b_Md_areApart 338 = .ok (.invokevirtual 37, 3) := by decide +kernel
theorem d_Md_areApart_341 : decode b_Md_areApart 341 = .ok (.ifCond .eq 7, 3) := by decide +kernel
theorem d_Md_areApart_344 : decode b_Md_areApart 344 = .ok (.iconst 1, 1) := by decide +kernel
theorem d_Md_areApart_345 : decode b_Md_areApart 345 = .ok (.goto 4, 3) := by decide +kernel
theorem d_Md_areApart_348 : decode b_Md_areApart 348 = .ok (.iconst 0, 1) := by decide +kernel
theorem d_Md_areApart_349 : decode b_Md_areApart 349 = .ok (.istore 12, 2) := by decide +kernel
theorem d_Md_areApart_351 : decode b_Md_areApart 351 = .ok (.aload_n 0, 1) := by decide +kernel
theorem d_Md_areApart_352 : decode b_Md_areApart 352 = .ok (.iload_n 1, 1) := by decide +kernel
theorem d_Md_areApart_353 : decode b_Md_areApart 353 = .ok (.aload_n 0, 1) := by decide +kernel
theorem d_Md_areApart_354 : decode b_Md_areApart 354 = .ok (.getfield 13, 3) := by decide +kernel
theorem d_Md_areApart_357 : decode b_Md_areApart 357 = .ok (.iload_n 2, 1) := by decide +kernel
theorem d_Md_areApart_358 : decode b_Md_areApart 358 = .ok (.iaload, 1) := by decide +kernel
theorem d_Md_areApart_359 : decode b_Md_areApart 359 = .ok (.aload_n 0, 1) := by decide +kernel
theorem d_Md_areApart_360 : decode b_Md_areApart 360 = .ok (.getfield 17, 3) := by decide +kernel
theorem d_Md_areApart_363 : decode b_Md_areApart 363 = .ok (.iload_n 2, 1) := by decide +kernel
theorem d_Md_areApart_364 : decode b_Md_areApart 364 = .ok (.iaload, 1) := by decide +kernel
theorem d_Md_areApart_365 : decode b_Md_areApart 365 = .ok (.invokevirtual 41, 3) := by decide +kernel
theorem d_Md_areApart_368 : decode b_Md_areApart 368 = .ok (.ifCond .eq 23, 3) := by decide +kernel
theorem d_Md_areApart_371 : decode b_Md_areApart 371 = .ok (.aload_n 0, 1) := by decide +kernel
theorem d_Md_areApart_372 : decode b_Md_areApart 372 = .ok (.iload_n 1, 1) := by decide +kernel
theorem d_Md_areApart_373 : decode b_Md_areApart 373 = .ok (.aload_n 0, 1) := by decide +kernel
theorem d_Md_areApart_374 : decode b_Md_areApart 374 = .ok (.getfield 13, 3) := by decide +kernel
theorem d_Md_areApart_377 : decode b_Md_areApart 377 = .ok (.iload_n 2, 1) := by decide +kernel
theorem d_Md_areApart_378 : decode b_Md_areApart 378 = .ok (.iaload, 1) := by decide +kernel
theorem d_Md_areApart_379 : decode b_Md_areApart 379 = .ok (.aload_n 0, 1) := by decide +kernel
theorem d_Md_areApart_380 : decode b_Md_areApart 380 = .ok (.getfield 17, 3) := by decide +kernel
theorem d_Md_areApart_383 : decode b_Md_areApart 383 = .ok (.iload_n 2, 1) := by decide +kernel
theorem d_Md_areApart_384 : decode b_Md_areApart 384 = .ok (.iaload, 1) := by decide +kernel
theorem d_Md_areApart_385 : decode b_Md_areApart 385 = .ok (.invokevirtual 37, 3) := by decide +kernel
theorem d_Md_areApart_388 : decode b_Md_areApart 388 = .ok (.ifCond .eq 123, 3) := by decide +kernel
theorem d_Md_areApart_391 : decode b_Md_areApart 391 = .ok (.aload_n 0, 1) := by decide +kernel
theorem d_Md_areApart_392 : decode b_Md_areApart 392 = .ok (.iload_n 1, 1) := by decide +kernel
theorem d_Md_areApart_393 : decode b_Md_areApart 393 = .ok (.aload_n 0, 1) := by decide +kernel
theorem d_Md_areApart_394 : decode b_Md_areApart 394 = .ok (.getfield 20, 3) := by decide +kernel
theorem d_Md_areApart_397 : decode b_Md_areApart 397 = .ok (.iload_n 2, 1) := by decide +kernel
theorem d_Md_areApart_398 : decode b_Md_areApart 398 = .ok (.iaload, 1) := by decide +kernel
theorem d_Md_areApart_399 : decode b_Md_areApart 399 = .ok (.aload_n 0, 1) := by decide +kernel
theorem d_Md_areApart_400 : decode b_Md_areApart 400 = .ok (.getfield 23, 3) := by decide +kernel
theorem d_Md_areApart_403 : decode b_Md_areApart 403 = .ok (.iload_n 2, 1) := by decide +kernel
theorem d_Md_areApart_404 : decode b_Md_areApart 404 = .ok (.iaload, 1) := by decide +kernel
theorem d_Md_areApart_405 : decode b_Md_areApart 405 = .ok (.invokevirtual 41, 3) := by decide +kernel
theorem d_Md_areApart_408 : decode b_Md_areApart 408 = .ok (.ifCond .eq 23, 3) := by decide +kernel
theorem d_Md_areApart_411 : decode b_Md_areApart 411 = .ok (.aload_n 0, 1) := by decide +kernel
theorem d_Md_areApart_412 : decode b_Md_areApart 412 = .ok (.iload_n 1, 1) := by decide +kernel
theorem d_Md_areApart_413 : decode b_Md_areApart 413 = .ok (.aload_n 0, 1) := by decide +kernel
theorem d_Md_areApart_414 : decode b_Md_areApart 414 = .ok (.getfield 20, 3) := by decide +kernel
theorem d_Md_areApart_417 : decode b_Md_areApart 417 = .ok (.iload_n 2, 1) := by decide +kernel
theorem d_Md_areApart_418 : decode b_Md_areApart 418 = .ok (.iaload, 1) := by decide +kernel
theorem d_Md_areApart_419 : decode b_Md_areApart 419 = .ok (.aload_n 0, 1) := by decide +kernel
theorem d_Md_areApart_420 : decode b_Md_areApart 420 = .ok (.getfield 23, 3) := by decide +kernel
theorem d_Md_areApart_423 : decode b_Md_areApart 423 = .ok (.iload_n 2, 1) := by decide +kernel
theorem d_Md_areApart_424 : decode b_Md_areApart 424 = .ok (.iaload, 1) := by decide +kernel
theorem d_Md_areApart_425 : decode b_Md_areApart 425 = .ok (.invokevirtual 37, 3) := by decide +kernel
theorem d_Md_areApart_428 : decode b_Md_areApart 428 = .ok (.ifCond .eq 83, 3) := by decide +kernel
theorem d_Md_areApart_431 : decode b_Md_areApart 431 = .ok (.aload_n 0, 1) := by decide +kernel
theorem d_Md_areApart_432 : decode b_Md_areApart 432 = .ok (.iload_n 2, 1) := by decide +kernel
theorem d_Md_areApart_433 : decode b_Md_areApart 433 = .ok (.aload_n 0, 1) := by decide +kernel
theorem d_Md_areApart_434 : decode b_Md_areApart 434 = .ok (.getfield 13, 3) := by decide +kernel
theorem d_Md_areApart_437 : decode b_Md_areApart 437 = .ok (.iload_n 1, 1) := by decide +kernel
theorem d_Md_areApart_438 : decode b_Md_areApart 438 = .ok (.iaload, 1) := by decide +kernel
theorem d_Md_areApart_439 : decode b_Md_areApart 439 = .ok (.aload_n 0, 1) := by decide +kernel
theorem d_Md_areApart_440 : decode b_Md_areApart 440 = .ok (.getfield 17, 3) := by decide +kernel
theorem d_Md_areApart_443 : decode b_Md_areApart 443 = .ok (.iload_n 1, 1) := by decide +kernel
theorem d_Md_areApart_444 : decode b_Md_areApart 444 = .ok (.iaload, 1) := by decide +kernel
theorem d_Md_areApart_445 : decode b_Md_areApart 445 = .ok (.invokevirtual 41, 3) := by decide +kernel
theorem d_Md_areApart_448 : decode b_Md_areApart 448 = .ok (.ifCond .eq 23, 3) := by decide +kernel
theorem d_Md_areApart_451 : decode b_Md_areApart 451 = .ok (.aload_n 0, 1) := by decide +kernel
theorem d_Md_areApart_452 : decode b_Md_areApart 452 = .ok (.iload_n 2, 1) := by decide +kernel
theorem d_Md_areApart_453 : decode b_Md_areApart 453 = .ok (.aload_n 0, 1) := by decide +kernel
theorem d_Md_areApart_454 : decode b_Md_areApart 454 = .ok (.getfield 13, 3) := by decide +kernel
theorem d_Md_areApart_457 : decode b_Md_areApart 457 = .ok (.iload_n 1, 1) := by decide +kernel
theorem d_Md_areApart_458 : decode b_Md_areApart 458 = .ok (.iaload, 1) := by decide +kernel
theorem d_Md_areApart_459 : decode b_Md_areApart 459 = .ok (.aload_n 0, 1) := by decide +kernel
theorem d_Md_areApart_460 : decode b_Md_areApart 460 = .ok (.getfield 17, 3) := by decide +kernel
theorem d_Md_areApart_463 : decode b_Md_areApart 463 = .ok (.iload_n 1, 1) := by decide +kernel
theorem d_Md_areApart_464 : decode b_Md_areApart 464 = .ok (.iaload, 1) := by decide +kernel
theorem d_Md_areApart_465 : decode b_Md_areApart 465 = .ok (.invokevirtual 37, 3) := by decide +kernel
theorem d_Md_areApart_468 : decode b_Md_areApart 468 = .ok (.ifCond .eq 43, 3) := by decide +kernel
theorem d_Md_areApart_471 : decode b_Md_areApart 471 = .ok (.aload_n 0, 1) := by decide +kernel
theorem d_Md_areApart_472 : decode b_Md_areApart 472 = .ok (.iload_n 2, 1) := by decide +kernel
theorem d_Md_areApart_473 : decode b_Md_areApart 473 = .ok (.aload_n 0, 1) := by decide +kernel
theorem d_Md_areApart_474 : decode b_Md_areApart 474 = .ok (.getfield 20, 3) := by decide +kernel
theorem d_Md_areApart_477 : decode b_Md_areApart 477 = .ok (.iload_n 1, 1) := by decide +kernel
theorem d_Md_areApart_478 : decode b_Md_areApart 478 = .ok (.iaload, 1) := by decide +kernel
theorem d_Md_areApart_479 : decode b_Md_areApart 479 = .ok (.aload_n 0, 1) := by decide +kernel
theorem d_Md_areApart_480 : decode b_Md_areApart 480 = .ok (.getfield 23, 3) := by decide +kernel
theorem d_Md_areApart_483 : decode b_Md_areApart 483 = .ok (.iload_n 1, 1) := by decide +kernel
theorem d_Md_areApart_484 : decode b_Md_areApart 484 = .ok (.iaload, 1) := by decide +kernel
theorem d_Md_areApart_485 : decode b_Md_areApart 485 = .ok (.invokevirtual 41, 3) := by decide +kernel
theorem d_Md_areApart_488 : decode b_Md_areApart 488 = .ok (.ifCond .eq 27, 3) := by decide +kernel
theorem d_Md_areApart_491 : decode b_Md_areApart 491 = .ok (.aload_n 0, 1) := by decide +kernel
theorem d_Md_areApart_492 : decode b_Md_areApart 492 = .ok (.iload_n 2, 1) := by decide +kernel
theorem d_Md_areApart_493 : decode b_Md_areApart 493 = .ok (.aload_n 0, 1) := by decide +kernel
theorem d_Md_areApart_494 : decode b_Md_areApart 494 = .ok (.getfield 20, 3) := by decide +kernel
theorem d_Md_areApart_497 : decode b_Md_areApart 497 = .ok (.iload_n 1, 1) := by decide +kernel
theorem d_Md_areApart_498 : decode b_Md_areApart 498 = .ok (.iaload, 1) := by decide +kernel
theorem d_Md_areApart_499 : decode b_Md_areApart 499 = .ok (.aload_n 0, 1) := by decide +kernel
theorem d_Md_areApart_500 : decode b_Md_areApart 500 = .ok (.getfield 23, 3) := by decide +kernel
theorem d_Md_areApart_503 : decode b_Md_areApart 503 = .ok (.iload_n 1, 1) := by decide +kernel
theorem d_Md_areApart_504 : decode b_Md_areApart 504 = .ok (.iaload, 1) := by decide +kernel
theorem d_Md_areApart_505 : decode b_Md_areApart 505 = .ok (.invokevirtual 37, 3) := by decide +kernel
theorem d_Md_areApart_508 : decode b_Md_areApart 508 = .ok (.ifCond .ne 7, 3) := by decide +kernel
theorem d_Md_areApart_511 : decode b_Md_areApart 511 = .ok (.iconst 1, 1) := by decide +kernel
theorem d_Md_areApart_512 : decode b_Md_areApart 512 = .ok (.goto 4, 3) := by decide +kernel
theorem d_Md_areApart_515 : decode b_Md_areApart 515 = .ok (.iconst 0, 1) := by decide +kernel
theorem d_Md_areApart_516 : decode b_Md_areApart 516 = .ok (.istore 13, 2) := by decide +kernel
theorem d_Md_areApart_518 : decode b_Md_areApart 518 = .ok (.iload 11, 2) := by decide +kernel
theorem d_Md_areApart_520 : decode b_Md_areApart 520 = .ok (.ifCond .ne 17, 3) := by decide +kernel
theorem d_Md_areApart_523 : decode b_Md_areApart 523 = .ok (.iload 12, 2) := by decide +kernel
theorem d_Md_areApart_525 : decode b_Md_areApart 525 = .ok (.ifCond .ne 12, 3) := by decide +kernel
theorem d_Md_areApart_528 : decode b_Md_areApart 528 = .ok (.iload 13, 2) := by decide +kernel
theorem d_Md_areApart_530 : decode b_Md_areApart 530 = .ok (.ifCond .ne 7, 3) := by decide +kernel
theorem d_Md_areApart_533 : decode b_Md_areApart 533 = .ok (.iconst 1, 1) := by decide +kernel
theorem d_Md_areApart_534 : decode b_Md_areApart 534 = .ok (.goto 4, 3) := by decide +kernel
theorem d_Md_areApart_537 : decode b_Md_areApart 537 = .ok (.iconst 0, 1) := by decide +kernel
theorem d_Md_areApart_538 : decode b_Md_areApart 538 = .ok (.ireturn, 1) := by decide +kernel
theorem d_Md_isWall_0 : decode b_Md_isWall 0 = .ok (.iload_n 1, 1) := by decide +kernel
theorem d_Md_isWall_1 : decode b_Md_isWall 1 = .ok (.ifCond .lt 22, 3) := by decide +kernel
theorem d_Md_isWall_4 : decode b_Md_isWall 4 = .ok (.iload_n 1, 1) := by decide +kernel
theorem d_Md_isWall_5 : decode b_Md_isWall 5 = .ok (.bipush 64, 2) := by decide +kernel
theorem d_Md_isWall_7 : decode b_Md_isWall 7 = .ok (.if_icmp .ge 16, 3) := by decide +kernel
theorem d_Md_isWall_10 : decode b_Md_isWall 10 = .ok (.aload_n 0, 1) := by decide +kernel
theorem d_Md_isWall_11 : decode b_Md_isWall 11 = .ok (.getfield 7, 3) := by decide +kernel
theorem d_Md_isWall_14 : decode b_Md_isWall 14 = .ok (.iload_n 1, 1) := by decide +kernel
theorem d_Md_isWall_15 : decode b_Md_isWall 15 = .ok (.baload, 1) := by decide +kernel
theorem d_Md_isWall_16 : decode b_Md_isWall 16 = .ok (.ifCond .eq 7, 3) := by decide +kernel
theorem d_Md_isWall_19 : decode b_Md_isWall 19 = .ok (.iconst 1, 1) := by decide +kernel
theorem d_Md_isWall_20 : decode b_Md_isWall 20 = .ok (.goto 4, 3) := by decide +kernel
theorem d_Md_isWall_23 : decode b_Md_isWall 23 = .ok (.iconst 0, 1) := by decide +kernel
theorem d_Md_isWall_24 : decode b_Md_isWall 24 = .ok (.ireturn, 1) := by decide +kernel
theorem d_Md_down_0 : decode b_Md_down 0 = .ok (.lload_n 0, 1) := by decide +kernel
theorem d_Md_down_1 : decode b_Md_down 1 = .ok (.lload_n 2, 1) := by decide +kernel
theorem d_Md_down_2 : decode b_Md_down 2 = .ok (.ldiv, 1) := by decide +kernel
theorem d_Md_down_3 : decode b_Md_down 3 = .ok (.lstore 4, 2) := by decide +kernel
theorem d_Md_down_5 : decode b_Md_down 5 = .ok (.lload_n 0, 1) := by decide +kernel
theorem d_Md_down_6 : decode b_Md_down 6 = .ok (.lload_n 2, 1) := by decide +kernel
theorem d_Md_down_7 : decode b_Md_down 7 = .ok (.lrem, 1) := by decide +kernel
theorem d_Md_down_8 : decode b_Md_down 8 = .ok (.lconst 0, 1) := by decide +kernel
theorem d_Md_down_9 : decode b_Md_down 9 = .ok (.lcmp, 1) := by decide +kernel
theorem d_Md_down_10 : decode b_Md_down 10 = .ok (.ifCond .eq 35, 3) := by decide +kernel
theorem d_Md_down_13 : decode b_Md_down 13 = .ok (.lload_n 0, 1) := by decide +kernel
theorem d_Md_down_14 : decode b_Md_down 14 = .ok (.lconst 0, 1) := by decide +kernel
theorem d_Md_down_15 : decode b_Md_down 15 = .ok (.lcmp, 1) := by decide +kernel
theorem d_Md_down_16 : decode b_Md_down 16 = .ok (.ifCond .ge 7, 3) := by decide +kernel
theorem d_Md_down_19 : decode b_Md_down 19 = .ok (.iconst 1, 1) := by decide +kernel
theorem d_Md_down_20 : decode b_Md_down 20 = .ok (.goto 4, 3) := by decide +kernel
theorem d_Md_down_23 : decode b_Md_down 23 = .ok (.iconst 0, 1) := by decide +kernel
theorem d_Md_down_24 : decode b_Md_down 24 = .ok (.lload_n 2, 1) := by decide +kernel
theorem d_Md_down_25 : decode b_Md_down 25 = .ok (.lconst 0, 1) := by decide +kernel
theorem d_Md_down_26 : decode b_Md_down 26 = .ok (.lcmp, 1) := by decide +kernel
theorem d_Md_down_27 : decode b_Md_down 27 = .ok (.ifCond .ge 7, 3) := by decide +kernel
theorem d_Md_down_30 : decode b_Md_down 30 = .ok (.iconst 1, 1) := by decide +kernel
theorem d_Md_down_31 : decode b_Md_down 31 = .ok (.goto 4, 3) := by decide +kernel
theorem d_Md_down_34 : decode b_Md_down 34 = .ok (.iconst 0, 1) := by decide +kernel
theorem d_Md_down_35 : decode b_Md_down 35 = .ok (.if_icmp .eq 10, 3) := by decide +kernel
theorem d_Md_down_38 : decode b_Md_down 38 = .ok (.lload 4, 2) := by decide +kernel
theorem d_Md_down_40 : decode b_Md_down 40 = .ok (.lconst 1, 1) := by decide +kernel
theorem d_Md_down_41 : decode b_Md_down 41 = .ok (.lsub, 1) := by decide +kernel
theorem d_Md_down_42 : decode b_Md_down 42 = .ok (.goto 5, 3) := by decide +kernel
theorem d_Md_down_45 : decode b_Md_down 45 = .ok (.lload 4, 2) := by decide +kernel
theorem d_Md_down_47 : decode b_Md_down 47 = .ok (.lreturn, 1) := by decide +kernel
end
section
theorem d_Md_init_0 : decode b_Md_init 0 = .ok (.aload_n 0, 1) := by decide +kernel
theorem d_Md_init_1 : decode b_Md_init 1 = .ok (.invokespecial 1, 3) := by decide +kernel
theorem d_Md_init_4 : decode b_Md_init 4 = .ok (.aload_n 0, 1) := by decide +kernel
theorem d_Md_init_5 : decode b_Md_init 5 = .ok (.bipush 64, 2) := by decide +kernel
theorem d_Md_init_7 : decode b_Md_init 7 = .ok (.newarray .boolean, 2) := by decide +kernel
theorem d_Md_init_9 : decode b_Md_init 9 = .ok (.putfield 7, 3) := by decide +kernel
theorem d_Md_init_12 : decode b_Md_init 12 = .ok (.aload_n 0, 1) := by decide +kernel
theorem d_Md_init_13 : decode b_Md_init 13 = .ok (.bipush 64, 2) := by decide +kernel
theorem d_Md_init_15 : decode b_Md_init 15 = .ok (.newarray .int, 2) := by decide +kernel
theorem d_Md_init_17 : decode b_Md_init 17 = .ok (.putfield 13, 3) := by decide +kernel
theorem d_Md_init_20 : decode b_Md_init 20 = .ok (.aload_n 0, 1) := by decide +kernel
theorem d_Md_init_21 : decode b_Md_init 21 = .ok (.bipush 64, 2) := by decide +kernel
theorem d_Md_init_23 : decode b_Md_init 23 = .ok (.newarray .int, 2) := by decide +kernel
theorem d_Md_init_25 : decode b_Md_init 25 = .ok (.putfield 17, 3) := by decide +kernel
theorem d_Md_init_28 : decode b_Md_init 28 = .ok (.aload_n 0, 1) := by decide +kernel
theorem d_Md_init_29 : decode b_Md_init 29 = .ok (.bipush 64, 2) := by decide +kernel
theorem d_Md_init_31 : decode b_Md_init 31 = .ok (.newarray .int, 2) := by decide +kernel
theorem d_Md_init_33 : decode b_Md_init 33 = .ok (.putfield 20, 3) := by decide +kernel
theorem d_Md_init_36 : decode b_Md_init 36 = .ok (.aload_n 0, 1) := by decide +kernel
theorem d_Md_init_37 : decode b_Md_init 37 = .ok (.bipush 64, 2) := by decide +kernel
theorem d_Md_init_39 : decode b_Md_init 39 = .ok (.newarray .int, 2) := by decide +kernel
theorem d_Md_init_41 : decode b_Md_init 41 = .ok (.putfield 23, 3) := by decide +kernel
theorem d_Md_init_44 : decode b_Md_init 44 = .ok (.aload_n 0, 1) := by decide +kernel
theorem d_Md_init_45 : decode b_Md_init 45 = .ok (.bipush 64, 2) := by decide +kernel
theorem d_Md_init_47 : decode b_Md_init 47 = .ok (.newarray .int, 2) := by decide +kernel
theorem d_Md_init_49 : decode b_Md_init 49 = .ok (.putfield 26, 3) := by decide +kernel
theorem d_Md_init_52 : decode b_Md_init 52 = .ok (.return_, 1) := by decide +kernel
theorem d_Md_put_0 : decode b_Md_put 0 = .ok (.aload_n 0, 1) := by decide +kernel
theorem d_Md_put_1 : decode b_Md_put 1 = .ok (.iconst 0, 1) := by decide +kernel
theorem d_Md_put_2 : decode b_Md_put 2 = .ok (.putfield 29, 3) := by decide +kernel
theorem d_Md_put_5 : decode b_Md_put 5 = .ok (.aload_n 0, 1) := by decide +kernel
theorem d_Md_put_6 : decode b_Md_put 6 = .ok (.invokevirtual 44, 3) := by decide +kernel
theorem d_Md_put_9 : decode b_Md_put 9 = .ok (.istore 5, 2) := by decide +kernel
theorem d_Md_put_11 : decode b_Md_put 11 = .ok (.iload_n 1, 1) := by decide +kernel
theorem d_Md_put_12 : decode b_Md_put 12 = .ok (.sipush 2000, 3) := by decide +kernel
theorem d_Md_put_15 : decode b_Md_put 15 = .ok (.invokestatic 48, 3) := by decide +kernel
theorem d_Md_put_18 : decode b_Md_put 18 = .ok (.ifCond .eq 50, 3) := by decide +kernel
theorem d_Md_put_21 : decode b_Md_put 21 = .ok (.iload_n 2, 1) := by decide +kernel
theorem d_Md_put_22 : decode b_Md_put 22 = .ok (.sipush 2000, 3) := by decide +kernel
theorem d_Md_put_25 : decode b_Md_put 25 = .ok (.invokestatic 48, 3) := by decide +kernel
theorem d_Md_put_28 : decode b_Md_put 28 = .ok (.ifCond .eq 40, 3) := by decide +kernel
theorem d_Md_put_31 : decode b_Md_put 31 = .ok (.iload_n 3, 1) := by decide +kernel
theorem d_Md_put_32 : decode b_Md_put 32 = .ok (.sipush 2000, 3) := by decide +kernel
theorem d_Md_put_35 : decode b_Md_put 35 = .ok (.invokestatic 48, 3) := by decide +kernel
theorem d_Md_put_38 : decode b_Md_put 38 = .ok (.ifCond .eq 30, 3) := by decide +kernel
theorem d_Md_put_41 : decode b_Md_put 41 = .ok (.iload 4, 2) := by decide +kernel
theorem d_Md_put_43 : decode b_Md_put 43 = .ok (.sipush 2000, 3) := by decide +kernel
theorem d_Md_put_46 : decode b_Md_put 46 = .ok (.invokestatic 48, 3) := by decide +kernel
theorem d_Md_put_49 : decode b_Md_put 49 = .ok (.ifCond .eq 19, 3) := by decide +kernel
theorem d_Md_put_52 : decode b_Md_put 52 = .ok (.iload_n 1, 1) := by decide +kernel
theorem d_Md_put_53 : decode b_Md_put 53 = .ok (.iload_n 3, 1) := by decide +kernel
theorem d_Md_put_54 : decode b_Md_put 54 = .ok (.if_icmp .ne 9, 3) := by decide +kernel
theorem d_Md_put_57 : decode b_Md_put 57 = .ok (.iload_n 2, 1) := by decide +kernel
theorem d_Md_put_58 : decode b_Md_put 58 = .ok (.iload 4, 2) := by decide +kernel
theorem d_Md_put_60 : decode b_Md_put 60 = .ok (.if_icmp .eq 8, 3) := by decide +kernel
theorem d_Md_put_63 : decode b_Md_put 63 = .ok (.iload 5, 2) := by decide +kernel
theorem d_Md_put_65 : decode b_Md_put 65 = .ok (.ifCond .ge 5, 3) := by decide +kernel
theorem d_Md_put_68 : decode b_Md_put 68 = .ok (.iconst (-1), 1) := by decide +kernel
theorem d_Md_put_69 : decode b_Md_put 69 = .ok (.ireturn, 1) := by decide +kernel
theorem d_Md_put_70 : decode b_Md_put 70 = .ok (.aload_n 0, 1) := by decide +kernel
theorem d_Md_put_71 : decode b_Md_put 71 = .ok (.getfield 13, 3) := by decide +kernel
theorem d_Md_put_74 : decode b_Md_put 74 = .ok (.iload 5, 2) := by decide +kernel
theorem d_Md_put_76 : decode b_Md_put 76 = .ok (.iload_n 1, 1) := by decide +kernel
theorem d_Md_put_77 : decode b_Md_put 77 = .ok (.iastore, 1) := by decide +kernel
theorem d_Md_put_78 : decode b_Md_put 78 = .ok (.aload_n 0, 1) := by decide +kernel
theorem d_Md_put_79 : decode b_Md_put 79 = .ok (.getfield 17, 3) := by decide +kernel
theorem d_Md_put_82 : decode b_Md_put 82 = .ok (.iload 5, 2) := by decide +kernel
theorem d_Md_put_84 : decode b_Md_put 84 = .ok (.iload_n 2, 1) := by decide +kernel
theorem d_Md_put_85 : decode b_Md_put 85 = .ok (.iastore, 1) := by decide +kernel
theorem d_Md_put_86 : decode b_Md_put 86 = .ok (.aload_n 0, 1) := by decide +kernel
theorem d_Md_put_87 : decode b_Md_put 87 = .ok (.getfield 20, 3) := by decide +kernel
theorem d_Md_put_90 : decode b_Md_put 90 = .ok (.iload 5, 2) := by decide +kernel
theorem d_Md_put_92 : decode b_Md_put 92 = .ok (.iload_n 3, 1) := by decide +kernel
theorem d_Md_put_93 : decode b_Md_put 93 = .ok (.iastore, 1) := by decide +kernel
theorem d_Md_put_94 : decode b_Md_put 94 = .ok (.aload_n 0, 1) := by decide +kernel
theorem d_Md_put_95 : decode b_Md_put 95 = .ok (.getfield 23, 3) := by decide +kernel
theorem d_Md_put_98 : decode b_Md_put 98 = .ok (.iload 5, 2) := by decide +kernel
theorem d_Md_put_100 : decode b_Md_put 100 = .ok (.iload 4, 2) := by decide +kernel
theorem d_Md_put_102 : decode b_Md_put 102 = .ok (.iastore, 1) := by decide +kernel
theorem d_Md_put_103 : decode b_Md_put 103 = .ok (.iconst 0, 1) := by decide +kernel
theorem d_Md_put_104 : decode b_Md_put 104 = .ok (.istore 6, 2) := by decide +kernel
theorem d_Md_put_106 : decode b_Md_put 106 = .ok (.iload 6, 2) := by decide +kernel
theorem d_Md_put_108 : decode b_Md_put 108 = .ok (.bipush 64, 2) := by decide +kernel
theorem d_Md_put_110 : decode b_Md_put 110 = .ok (.if_icmp .ge 32, 3) := by decide +kernel
theorem d_Md_put_113 : decode b_Md_put 113 = .ok (.aload_n 0, 1) := by decide +kernel
theorem d_Md_put_114 : decode b_Md_put 114 = .ok (.getfield 7, 3) := by decide +kernel
theorem d_Md_put_117 : decode b_Md_put 117 = .ok (.iload 6, 2) := by decide +kernel
theorem d_Md_put_119 : decode b_Md_put 119 = .ok (.baload, 1) := by decide +kernel
theorem d_Md_put_120 : decode b_Md_put 120 = .ok (.ifCond .eq 16, 3) := by decide +kernel
theorem d_Md_put_123 : decode b_Md_put 123 = .ok (.aload_n 0, 1) := by decide +kernel
theorem d_Md_put_124 : decode b_Md_put 124 = .ok (.iload 5, 2) := by decide +kernel
theorem d_Md_put_126 : decode b_Md_put 126 = .ok (.iload 6, 2) := by decide +kernel
theorem d_Md_put_128 : decode b_Md_put 128 = .ok (.invokevirtual 52, 3) := by decide +kernel
theorem d_Md_put_131 : decode b_Md_put 131 = .ok (.ifCond .ne 5, 3) := by decide +kernel
theorem d_Md_put_134 : decode b_Md_put 134 = .ok (.iconst (-1), 1) := by decide +kernel
theorem d_Md_put_135 : decode b_Md_put 135 = .ok (.ireturn, 1) := by decide +kernel
theorem d_Md_put_136 : decode b_Md_put 136 = .ok (.iinc 6 1, 3) := by decide +kernel
theorem d_Md_put_139 : decode b_Md_put 139 = .ok (.goto (-33), 3) := by decide +kernel
theorem d_Md_put_142 : decode b_Md_put 142 = .ok (.aload_n 0, 1) := by decide +kernel
theorem d_Md_put_143 : decode b_Md_put 143 = .ok (.getfield 7, 3) := by decide +kernel
theorem d_Md_put_146 : decode b_Md_put 146 = .ok (.iload 5, 2) := by decide +kernel
theorem d_Md_put_148 : decode b_Md_put 148 = .ok (.iconst 1, 1) := by decide +kernel
theorem d_Md_put_149 : decode b_Md_put 149 = .ok (.bastore, 1) := by decide +kernel
theorem d_Md_put_150 : decode b_Md_put 150 = .ok (.aload_n 0, 1) := by decide +kernel
theorem d_Md_put_151 : decode b_Md_put 151 = .ok (.dup, 1) := by decide +kernel
theorem d_Md_put_152 : decode b_Md_put 152 = .ok (.getfield 55, 3) := by decide +kernel
theorem d_Md_put_155 : decode b_Md_put 155 = .ok (.iconst 1, 1) := by decide +kernel
theorem d_Md_put_156 : decode b_Md_put 156 = .ok (.iadd, 1) := by decide +kernel
theorem d_Md_put_157 : decode b_Md_put 157 = .ok (.putfield 55, 3) := by decide +kernel
theorem d_Md_put_160 : decode b_Md_put 160 = .ok (.iload 5, 2) := by decide +kernel
theorem d_Md_put_162 : decode b_Md_put 162 = .ok (.ireturn, 1) := by decide +kernel
theorem d_Md_take_0 : decode b_Md_take 0 = .ok (.aload_n 0, 1) := by decide +kernel
theorem d_Md_take_1 : decode b_Md_take 1 = .ok (.iconst 0, 1) := by decide +kernel
theorem d_Md_take_2 : decode b_Md_take 2 = .ok (.putfield 29, 3) := by decide +kernel
theorem d_Md_take_5 : decode b_Md_take 5 = .ok (.aload_n 0, 1) := by decide +kernel
theorem d_Md_take_6 : decode b_Md_take 6 = .ok (.iload_n 1, 1) := by decide +kernel
theorem d_Md_take_7 : decode b_Md_take 7 = .ok (.invokevirtual 58, 3) := by decide +kernel
theorem d_Md_take_10 : decode b_Md_take 10 = .ok (.ifCond .ne 5, 3) := by decide +kernel
theorem d_Md_take_13 : decode b_Md_take 13 = .ok (.iconst 0, 1) := by decide +kernel
theorem d_Md_take_14 : decode b_Md_take 14 = .ok (.ireturn, 1) := by decide +kernel
theorem d_Md_take_15 : decode b_Md_take 15 = .ok (.aload_n 0, 1) := by decide +kernel
theorem d_Md_take_16 : decode b_Md_take 16 = .ok (.getfield 7, 3) := by decide +kernel
theorem d_Md_take_19 : decode b_Md_take 19 = .ok (.iload_n 1, 1) := by decide +kernel
theorem d_Md_take_20 : decode b_Md_take 20 = .ok (.iconst 0, 1) := by decide +kernel
theorem d_Md_take_21 : decode b_Md_take 21 = .ok (.bastore, 1) := by decide +kernel
theorem d_Md_take_22 : decode b_Md_take 22 = .ok (.aload_n 0, 1) := by decide +kernel
theorem d_Md_take_23 : decode b_Md_take 23 = .ok (.dup, 1) := by decide +kernel
theorem d_Md_take_24 : decode b_Md_take 24 = .ok (.getfield 55, 3) := by decide +kernel
theorem d_Md_take_27 : decode b_Md_take 27 = .ok (.iconst 1, 1) := by decide +kernel
theorem d_Md_take_28 : decode b_Md_take 28 = .ok (.isub, 1) := by decide +kernel
theorem d_Md_take_29 : decode b_Md_take 29 = .ok (.putfield 55, 3) := by decide +kernel
theorem d_Md_take_32 : decode b_Md_take 32 = .ok (.iconst 1, 1) := by decide +kernel
theorem d_Md_take_33 : decode b_Md_take 33 = .ok (.ireturn, 1) := by decide +kernel
theorem d_Md_turn_0 : decode b_Md_turn 0 = .ok (.aload_n 0, 1) := by decide +kernel
theorem d_Md_turn_1 : decode b_Md_turn 1 = .ok (.iconst 0, 1) := by decide +kernel
theorem d_Md_turn_2 : decode b_Md_turn 2 = .ok (.putfield 29, 3) := by decide +kernel
theorem d_Md_turn_5 : decode b_Md_turn 5 = .ok (.aload_n 0, 1) := by decide +kernel
theorem d_Md_turn_6 : decode b_Md_turn 6 = .ok (.iload_n 1, 1) := by decide +kernel
theorem d_Md_turn_7 : decode b_Md_turn 7 = .ok (.invokevirtual 58, 3) := by decide +kernel
theorem d_Md_turn_10 : decode b_Md_turn 10 = .ok (.ifCond .ne 5, 3) := by decide +kernel
theorem d_Md_turn_13 : decode b_Md_turn 13 = .ok (.iconst 0, 1) := by decide +kernel
theorem d_Md_turn_14 : decode b_Md_turn 14 = .ok (.ireturn, 1) := by decide +kernel
theorem d_Md_turn_15 : decode b_Md_turn 15 = .ok (.aload_n 0, 1) := by decide +kernel
theorem d_Md_turn_16 : decode b_Md_turn 16 = .ok (.getfield 13, 3) := by decide +kernel
theorem d_Md_turn_19 : decode b_Md_turn 19 = .ok (.iload_n 1, 1) := by decide +kernel
theorem d_Md_turn_20 : decode b_Md_turn 20 = .ok (.iaload, 1) := by decide +kernel
theorem d_Md_turn_21 : decode b_Md_turn 21 = .ok (.istore_n 2, 1) := by decide +kernel
theorem d_Md_turn_22 : decode b_Md_turn 22 = .ok (.aload_n 0, 1) := by decide +kernel
theorem d_Md_turn_23 : decode b_Md_turn 23 = .ok (.getfield 17, 3) := by decide +kernel
theorem d_Md_turn_26 : decode b_Md_turn 26 = .ok (.iload_n 1, 1) := by decide +kernel
theorem d_Md_turn_27 : decode b_Md_turn 27 = .ok (.iaload, 1) := by decide +kernel
theorem d_Md_turn_28 : decode b_Md_turn 28 = .ok (.istore_n 3, 1) := by decide +kernel
theorem d_Md_turn_29 : decode b_Md_turn 29 = .ok (.aload_n 0, 1) := by decide +kernel
theorem d_Md_turn_30 : decode b_Md_turn 30 = .ok (.getfield 13, 3) := by decide +kernel
theorem d_Md_turn_33 : decode b_Md_turn 33 = .ok (.iload_n 1, 1) := by decide +kernel
theorem d_Md_turn_34 : decode b_Md_turn 34 = .ok (.aload_n 0, 1) := by decide +kernel
theorem d_Md_turn_35 : decode b_Md_turn 35 = .ok (.getfield 20, 3) := by decide +kernel
theorem d_Md_turn_38 : decode b_Md_turn 38 = .ok (.iload_n 1, 1) := by decide +kernel
theorem d_Md_turn_39 : decode b_Md_turn 39 = .ok (.iaload, 1) := by decide +kernel
theorem d_Md_turn_40 : decode b_Md_turn 40 = .ok (.iastore, 1) := by decide +kernel
theorem d_Md_turn_41 : decode b_Md_turn 41 = .ok (.aload_n 0, 1) := by decide +kernel
theorem d_Md_turn_42 : decode b_Md_turn 42 = .ok (.getfield 17, 3) := by decide +kernel
theorem d_Md_turn_45 : decode b_Md_turn 45 = .ok (.iload_n 1, 1) := by decide +kernel
theorem d_Md_turn_46 : decode b_Md_turn 46 = .ok (.aload_n 0, 1) := by decide +kernel
theorem d_Md_turn_47 : decode b_Md_turn 47 = .ok (.getfield 23, 3) := by decide +kernel
theorem d_Md_turn_50 : decode b_Md_turn 50 = .ok (.iload_n 1, 1) := by decide +kernel
theorem d_Md_turn_51 : decode b_Md_turn 51 = .ok (.iaload, 1) := by decide +kernel
theorem d_Md_turn_52 : decode b_Md_turn 52 = .ok (.iastore, 1) := by decide +kernel
theorem d_Md_turn_53 : decode b_Md_turn 53 = .ok (.aload_n 0, 1) := by decide +kernel
theorem d_Md_turn_54 : decode b_Md_turn 54 = .ok (.getfield 20, 3) := by decide +kernel
theorem d_Md_turn_57 : decode b_Md_turn 57 = .ok (.iload_n 1, 1) := by decide +kernel
theorem d_Md_turn_58 : decode b_Md_turn 58 = .ok (.iload_n 2, 1) := by decide +kernel
theorem d_Md_turn_59 : decode b_Md_turn 59 = .ok (.iastore, 1) := by decide +kernel
theorem d_Md_turn_60 : decode b_Md_turn 60 = .ok (.aload_n 0, 1) := by decide +kernel
theorem d_Md_turn_61 : decode b_Md_turn 61 = .ok (.getfield 23, 3) := by decide +kernel
theorem d_Md_turn_64 : decode b_Md_turn 64 = .ok (.iload_n 1, 1) := by decide +kernel
theorem d_Md_turn_65 : decode b_Md_turn 65 = .ok (.iload_n 3, 1) := by decide +kernel
theorem d_Md_turn_66 : decode b_Md_turn 66 = .ok (.iastore, 1) := by decide +kernel
theorem d_Md_turn_67 : decode b_Md_turn 67 = .ok (.iconst 1, 1) := by decide +kernel
theorem d_Md_turn_68 : decode b_Md_turn 68 = .ok (.ireturn, 1) := by decide +kernel
theorem d_Md_clear_0 : decode b_Md_clear 0 = .ok (.aload_n 0, 1) := by decide +kernel
theorem d_Md_clear_1 : decode b_Md_clear 1 = .ok (.iconst 0, 1) := by decide +kernel
theorem d_Md_clear_2 : decode b_Md_clear 2 = .ok (.putfield 29, 3) := by decide +kernel
theorem d_Md_clear_5 : decode b_Md_clear 5 = .ok (.aload_n 0, 1) := by decide +kernel
theorem d_Md_clear_6 : decode b_Md_clear 6 = .ok (.iconst 0, 1) := by decide +kernel
theorem d_Md_clear_7 : decode b_Md_clear 7 = .ok (.putfield 55, 3) := by decide +kernel
theorem d_Md_clear_10 : decode b_Md_clear 10 = .ok (.iconst 0, 1) := by decide +kernel
theorem d_Md_clear_11 : decode b_Md_clear 11 = .ok (.istore_n 1, 1) := by decide +kernel
theorem d_Md_clear_12 : decode b_Md_clear 12 = .ok (.iload_n 1, 1) := by decide +kernel
theorem d_Md_clear_13 : decode b_Md_clear 13 = .ok (.bipush 64, 2) := by decide +kernel
theorem d_Md_clear_15 : decode b_Md_clear 15 = .ok (.if_icmp .ge 16, 3) := by decide +kernel
theorem d_Md_clear_18 : decode b_Md_clear 18 = .ok (.aload_n 0, 1) := by decide +kernel
theorem d_Md_clear_19 : decode b_Md_clear 19 = .ok (.getfield 7, 3) := by decide +kernel
theorem d_Md_clear_22 : decode b_Md_clear 22 = .ok (.iload_n 1, 1) := by decide +kernel
theorem d_Md_clear_23 : decode b_Md_clear 23 = .ok (.iconst 0, 1) := by decide +kernel
theorem d_Md_clear_24 : decode b_Md_clear 24 = .ok (.bastore, 1) := by decide +kernel
theorem d_Md_clear_25 : decode b_Md_clear 25 = .ok (.iinc 1 1, 3) := by decide +kernel
theorem d_Md_clear_28 : decode b_Md_clear 28 = .ok (.goto (-16), 3) := by decide +kernel
theorem d_Md_clear_31 : decode b_Md_clear 31 = .ok (.return_, 1) := by decide +kernel
theorem d_Md_ray_0 : decode b_Md_ray 0 = .ok (.aload_n 0, 1) := by decide +kernel
theorem d_Md_ray_1 : decode b_Md_ray 1 = .ok (.iconst 0, 1) := by decide +kernel
theorem d_Md_ray_2 : decode b_Md_ray 2 = .ok (.putfield 29, 3) := by decide +kernel
theorem d_Md_ray_5 : decode b_Md_ray 5 = .ok (.iload_n 1, 1) := by decide +kernel
theorem d_Md_ray_6 : decode b_Md_ray 6 = .ok (.sipush 4000, 3) := by decide +kernel
theorem d_Md_ray_9 : decode b_Md_ray 9 = .ok (.invokestatic 48, 3) := by decide +kernel
theorem d_Md_ray_12 : decode b_Md_ray 12 = .ok (.ifCond .eq 43, 3) := by decide +kernel
theorem d_Md_ray_15 : decode b_Md_ray 15 = .ok (.iload_n 2, 1) := by decide +kernel
theorem d_Md_ray_16 : decode b_Md_ray 16 = .ok (.sipush 4000, 3) := by decide +kernel
theorem d_Md_ray_19 : decode b_Md_ray 19 = .ok (.invokestatic 48, 3) := by decide +kernel
theorem d_Md_ray_22 : decode b_Md_ray 22 = .ok (.ifCond .eq 33, 3) := by decide +kernel
theorem d_Md_ray_25 : decode b_Md_ray 25 = .ok (.iload_n 3, 1) := by decide +kernel
theorem d_Md_ray_26 : decode b_Md_ray 26 = .ok (.sipush 20000, 3) := by decide +kernel
theorem d_Md_ray_29 : decode b_Md_ray 29 = .ok (.invokestatic 48, 3) := by decide +kernel
theorem d_Md_ray_32 : decode b_Md_ray 32 = .ok (.ifCond .eq 23, 3) := by decide +kernel
theorem d_Md_ray_35 : decode b_Md_ray 35 = .ok (.iload 4, 2) := by decide +kernel
theorem d_Md_ray_37 : decode b_Md_ray 37 = .ok (.sipush 20000, 3) := by decide +kernel
theorem d_Md_ray_40 : decode b_Md_ray 40 = .ok (.invokestatic 48, 3) := by decide +kernel
theorem d_Md_ray_43 : decode b_Md_ray 43 = .ok (.ifCond .eq 12, 3) := by decide +kernel
theorem d_Md_ray_46 : decode b_Md_ray 46 = .ok (.iload_n 3, 1) := by decide +kernel
theorem d_Md_ray_47 : decode b_Md_ray 47 = .ok (.ifCond .ne 10, 3) := by decide +kernel
theorem d_Md_ray_50 : decode b_Md_ray 50 = .ok (.iload 4, 2) := by decide +kernel
theorem d_Md_ray_52 : decode b_Md_ray 52 = .ok (.ifCond .ne 5, 3) := by decide +kernel
theorem d_Md_ray_55 : decode b_Md_ray 55 = .ok (.iconst 0, 1) := by decide +kernel
theorem d_Md_ray_56 : decode b_Md_ray 56 = .ok (.ireturn, 1) := by decide +kernel
theorem d_Md_ray_57 : decode b_Md_ray 57 = .ok (.aload_n 0, 1) := by decide +kernel
theorem d_Md_ray_58 : decode b_Md_ray 58 = .ok (.iconst 1, 1) := by decide +kernel
theorem d_Md_ray_59 : decode b_Md_ray 59 = .ok (.putfield 62, 3) := by decide +kernel
theorem d_Md_ray_62 : decode b_Md_ray 62 = .ok (.aload_n 0, 1) := by decide +kernel
theorem d_Md_ray_63 : decode b_Md_ray 63 = .ok (.iload_n 1, 1) := by decide +kernel
theorem d_Md_ray_64 : decode b_Md_ray 64 = .ok (.putfield 66, 3) := by decide +kernel
theorem d_Md_ray_67 : decode b_Md_ray 67 = .ok (.aload_n 0, 1) := by decide +kernel
theorem d_Md_ray_68 : decode b_Md_ray 68 = .ok (.iload_n 2, 1) := by decide +kernel
theorem d_Md_ray_69 : decode b_Md_ray 69 = .ok (.putfield 69, 3) := by decide +kernel
theorem d_Md_ray_72 : decode b_Md_ray 72 = .ok (.aload_n 0, 1) := by decide +kernel
theorem d_Md_ray_73 : decode b_Md_ray 73 = .ok (.iload_n 3, 1) := by decide +kernel
theorem d_Md_ray_74 : decode b_Md_ray 74 = .ok (.putfield 72, 3) := by decide +kernel
theorem d_Md_ray_77 : decode b_Md_ray 77 = .ok (.aload_n 0, 1) := by decide +kernel
theorem d_Md_ray_78 : decode b_Md_ray 78 = .ok (.iload 4, 2) := by decide +kernel
theorem d_Md_ray_80 : decode b_Md_ray 80 = .ok (.putfield 75, 3) := by decide +kernel
theorem d_Md_ray_83 : decode b_Md_ray 83 = .ok (.iconst 1, 1) := by decide +kernel
theorem d_Md_ray_84 : decode b_Md_ray 84 = .ok (.ireturn, 1) := by decide +kernel
theorem d_Md_meets_0 : decode b_Md_meets 0 = .ok (.aload_n 0, 1) := by decide +kernel
theorem d_Md_meets_1 : decode b_Md_meets 1 = .ok (.aload_n 0, 1) := by decide +kernel
theorem d_Md_meets_2 : decode b_Md_meets 2 = .ok (.getfield 72, 3) := by decide +kernel
theorem d_Md_meets_5 : decode b_Md_meets 5 = .ok (.i2l, 1) := by decide +kernel
theorem d_Md_meets_6 : decode b_Md_meets 6 = .ok (.aload_n 0, 1) := by decide +kernel
theorem d_Md_meets_7 : decode b_Md_meets 7 = .ok (.getfield 75, 3) := by decide +kernel
theorem d_Md_meets_10 : decode b_Md_meets 10 = .ok (.i2l, 1) := by decide +kernel
theorem d_Md_meets_11 : decode b_Md_meets 11 = .ok (.aload_n 0, 1) := by decide +kernel
theorem d_Md_meets_12 : decode b_Md_meets 12 = .ok (.getfield 13, 3) := by decide +kernel
theorem d_Md_meets_15 : decode b_Md_meets 15 = .ok (.iload_n 1, 1) := by decide +kernel
theorem d_Md_meets_16 : decode b_Md_meets 16 = .ok (.iaload, 1) := by decide +kernel
theorem d_Md_meets_17 : decode b_Md_meets 17 = .ok (.aload_n 0, 1) := by decide +kernel
theorem d_Md_meets_18 : decode b_Md_meets 18 = .ok (.getfield 66, 3) := by decide +kernel
theorem d_Md_meets_21 : decode b_Md_meets 21 = .ok (.isub, 1) := by decide +kernel
theorem d_Md_meets_22 : decode b_Md_meets 22 = .ok (.i2l, 1) := by decide +kernel
theorem d_Md_meets_23 : decode b_Md_meets 23 = .ok (.aload_n 0, 1) := by decide +kernel
theorem d_Md_meets_24 : decode b_Md_meets 24 = .ok (.getfield 17, 3) := by decide +kernel
theorem d_Md_meets_27 : decode b_Md_meets 27 = .ok (.iload_n 1, 1) := by decide +kernel
theorem d_Md_meets_28 : decode b_Md_meets 28 = .ok (.iaload, 1) := by decide +kernel
theorem d_Md_meets_29 : decode b_Md_meets 29 = .ok (.aload_n 0, 1) := by decide +kernel
theorem d_Md_meets_30 : decode b_Md_meets 30 = .ok (.getfield 69, 3) := by decide +kernel
theorem d_Md_meets_33 : decode b_Md_meets 33 = .ok (.isub, 1) := by decide +kernel
theorem d_Md_meets_34 : decode b_Md_meets 34 = .ok (.i2l, 1) := by decide +kernel
theorem d_Md_meets_35 : decode b_Md_meets 35 = .ok (.invokestatic 33, 3) := by decide +kernel
theorem d_Md_meets_38 : decode b_Md_meets 38 = .ok (.putfield 78, 3) := by decide +kernel
theorem d_Md_meets_41 : decode b_Md_meets 41 = .ok (.aload_n 0, 1) := by decide +kernel
theorem d_Md_meets_42 : decode b_Md_meets 42 = .ok (.aload_n 0, 1) := by decide +kernel
theorem d_Md_meets_43 : decode b_Md_meets 43 = .ok (.getfield 72, 3) := by decide +kernel
theorem d_Md_meets_46 : decode b_Md_meets 46 = .ok (.i2l, 1) := by decide +kernel
theorem d_Md_meets_47 : decode b_Md_meets 47 = .ok (.aload_n 0, 1) := by decide +kernel
theorem d_Md_meets_48 : decode b_Md_meets 48 = .ok (.getfield 75, 3) := by decide +kernel
theorem d_Md_meets_51 : decode b_Md_meets 51 = .ok (.i2l, 1) := by decide +kernel
theorem d_Md_meets_52 : decode b_Md_meets 52 = .ok (.aload_n 0, 1) := by decide +kernel
theorem d_Md_meets_53 : decode b_Md_meets 53 = .ok (.getfield 20, 3) := by decide +kernel
theorem d_Md_meets_56 : decode b_Md_meets 56 = .ok (.iload_n 1, 1) := by decide +kernel
theorem d_Md_meets_57 : decode b_Md_meets 57 = .ok (.iaload, 1) := by decide +kernel
theorem d_Md_meets_58 : decode b_Md_meets 58 = .ok (.aload_n 0, 1) := by decide +kernel
theorem d_Md_meets_59 : decode b_Md_meets 59 = .ok (.getfield 66, 3) := by decide +kernel
theorem d_Md_meets_62 : decode b_Md_meets 62 = .ok (.isub, 1) := by decide +kernel
theorem d_Md_meets_63 : decode b_Md_meets 63 = .ok (.i2l, 1) := by decide +kernel
theorem d_Md_meets_64 : decode b_Md_meets 64 = .ok (.aload_n 0, 1) := by decide +kernel
theorem d_Md_meets_65 : decode b_Md_meets 65 = .ok (.getfield 23, 3) := by decide +kernel
theorem d_Md_meets_68 : decode b_Md_meets 68 = .ok (.iload_n 1, 1) := by decide +kernel
theorem d_Md_meets_69 : decode b_Md_meets 69 = .ok (.iaload, 1) := by decide +kernel
theorem d_Md_meets_70 : decode b_Md_meets 70 = .ok (.aload_n 0, 1) := by decide +kernel
theorem d_Md_meets_71 : decode b_Md_meets 71 = .ok (.getfield 69, 3) := by decide +kernel
theorem d_Md_meets_74 : decode b_Md_meets 74 = .ok (.isub, 1) := by decide +kernel
theorem d_Md_meets_75 : decode b_Md_meets 75 = .ok (.i2l, 1) := by decide +kernel
theorem d_Md_meets_76 : decode b_Md_meets 76 = .ok (.invokestatic 33, 3) := by decide +kernel
theorem d_Md_meets_79 : decode b_Md_meets 79 = .ok (.putfield 82, 3) := by decide +kernel
theorem d_Md_meets_82 : decode b_Md_meets 82 = .ok (.aload_n 0, 1) := by decide +kernel
theorem d_Md_meets_83 : decode b_Md_meets 83 = .ok (.aload_n 0, 1) := by decide +kernel
theorem d_Md_meets_84 : decode b_Md_meets 84 = .ok (.getfield 13, 3) := by decide +kernel
theorem d_Md_meets_87 : decode b_Md_meets 87 = .ok (.iload_n 1, 1) := by decide +kernel
theorem d_Md_meets_88 : decode b_Md_meets 88 = .ok (.iaload, 1) := by decide +kernel
theorem d_Md_meets_89 : decode b_Md_meets 89 = .ok (.aload_n 0, 1) := by decide +kernel
theorem d_Md_meets_90 : decode b_Md_meets 90 = .ok (.getfield 66, 3) := by decide +kernel
theorem d_Md_meets_93 : decode b_Md_meets 93 = .ok (.isub, 1) := by decide +kernel
theorem d_Md_meets_94 : decode b_Md_meets 94 = .ok (.i2l, 1) := by decide +kernel
theorem d_Md_meets_95 : decode b_Md_meets 95 = .ok (.aload_n 0, 1) := by decide +kernel
theorem d_Md_meets_96 : decode b_Md_meets 96 = .ok (.getfield 17, 3) := by decide +kernel
theorem d_Md_meets_99 : decode b_Md_meets 99 = .ok (.iload_n 1, 1) := by decide +kernel
theorem d_Md_meets_100 : decode b_Md_meets 100 = .ok (.iaload, 1) := by decide +kernel
theorem d_Md_meets_101 : decode b_Md_meets 101 = .ok (.aload_n 0, 1) := by decide +kernel
theorem d_Md_meets_102 : decode b_Md_meets 102 = .ok (.getfield 69, 3) := by decide +kernel
theorem d_Md_meets_105 : decode b_Md_meets 105 = .ok (.isub, 1) := by decide +kernel
theorem d_Md_meets_106 : decode b_Md_meets 106 = .ok (.i2l, 1) := by decide +kernel
theorem d_Md_meets_107 : decode b_Md_meets 107 = .ok (.aload_n 0, 1) := by decide +kernel
theorem d_Md_meets_108 : decode b_Md_meets 108 = .ok (.getfield 20, 3) := by decide +kernel
theorem d_Md_meets_111 : decode b_Md_meets 111 = .ok (.iload_n 1, 1) := by decide +kernel
theorem d_Md_meets_112 : decode b_Md_meets 112 = .ok (.iaload, 1) := by decide +kernel
theorem d_Md_meets_113 : decode b_Md_meets 113 = .ok (.aload_n 0, 1) := by decide +kernel
theorem d_Md_meets_114 : decode b_Md_meets 114 = .ok (.getfield 13, 3) := by decide +kernel
theorem d_Md_meets_117 : decode b_Md_meets 117 = .ok (.iload_n 1, 1) := by decide +kernel
theorem d_Md_meets_118 : decode b_Md_meets 118 = .ok (.iaload, 1) := by decide +kernel
theorem d_Md_meets_119 : decode b_Md_meets 119 = .ok (.isub, 1) := by decide +kernel
theorem d_Md_meets_120 : decode b_Md_meets 120 = .ok (.i2l, 1) := by decide +kernel
theorem d_Md_meets_121 : decode b_Md_meets 121 = .ok (.aload_n 0, 1) := by decide +kernel
theorem d_Md_meets_122 : decode b_Md_meets 122 = .ok (.getfield 23, 3) := by decide +kernel
theorem d_Md_meets_125 : decode b_Md_meets 125 = .ok (.iload_n 1, 1) := by decide +kernel
theorem d_Md_meets_126 : decode b_Md_meets 126 = .ok (.iaload, 1) := by decide +kernel
theorem d_Md_meets_127 : decode b_Md_meets 127 = .ok (.aload_n 0, 1) := by decide +kernel
theorem d_Md_meets_128 : decode b_Md_meets 128 = .ok (.getfield 17, 3) := by decide +kernel
theorem d_Md_meets_131 : decode b_Md_meets 131 = .ok (.iload_n 1, 1) := by decide +kernel
theorem d_Md_meets_132 : decode b_Md_meets 132 = .ok (.iaload, 1) := by decide +kernel
theorem d_Md_meets_133 : decode b_Md_meets 133 = .ok (.isub, 1) := by decide +kernel
theorem d_Md_meets_134 : decode b_Md_meets 134 = .ok (.i2l, 1) := by decide +kernel
theorem d_Md_meets_135 : decode b_Md_meets 135 = .ok (.invokestatic 33, 3) := by decide +kernel
theorem d_Md_meets_138 : decode b_Md_meets 138 = .ok (.putfield 85, 3) := by decide +kernel
theorem d_Md_meets_141 : decode b_Md_meets 141 = .ok (.aload_n 0, 1) := by decide +kernel
theorem d_Md_meets_142 : decode b_Md_meets 142 = .ok (.aload_n 0, 1) := by decide +kernel
theorem d_Md_meets_143 : decode b_Md_meets 143 = .ok (.getfield 82, 3) := by decide +kernel
theorem d_Md_meets_146 : decode b_Md_meets 146 = .ok (.aload_n 0, 1) := by decide +kernel
theorem d_Md_meets_147 : decode b_Md_meets 147 = .ok (.getfield 78, 3) := by decide +kernel
theorem d_Md_meets_150 : decode b_Md_meets 150 = .ok (.lsub, 1) := by decide +kernel
theorem d_Md_meets_151 : decode b_Md_meets 151 = .ok (.putfield 88, 3) := by decide +kernel
theorem d_Md_meets_154 : decode b_Md_meets 154 = .ok (.aload_n 0, 1) := by decide +kernel
theorem d_Md_meets_155 : decode b_Md_meets 155 = .ok (.aload_n 0, 1) := by decide +kernel
theorem d_Md_meets_156 : decode b_Md_meets 156 = .ok (.getfield 85, 3) := by decide +kernel
theorem d_Md_meets_159 : decode b_Md_meets 159 = .ok (.lconst 0, 1) := by decide +kernel
theorem d_Md_meets_160 : decode b_Md_meets 160 = .ok (.lcmp, 1) := by decide +kernel
theorem d_Md_meets_161 : decode b_Md_meets 161 = .ok (.ifCond .ge 7, 3) := by decide +kernel
theorem d_Md_meets_164 : decode b_Md_meets 164 = .ok (.iconst 1, 1) := by decide +kernel
theorem d_Md_meets_165 : decode b_Md_meets 165 = .ok (.goto 4, 3) := by decide +kernel
theorem d_Md_meets_168 : decode b_Md_meets 168 = .ok (.iconst 0, 1) := by decide +kernel
theorem d_Md_meets_169 : decode b_Md_meets 169 = .ok (.putfield 91, 3) := by decide +kernel
theorem d_Md_meets_172 : decode b_Md_meets 172 = .ok (.aload_n 0, 1) := by decide +kernel
theorem d_Md_meets_173 : decode b_Md_meets 173 = .ok (.getfield 88, 3) := by decide +kernel
theorem d_Md_meets_176 : decode b_Md_meets 176 = .ok (.lconst 0, 1) := by decide +kernel
theorem d_Md_meets_177 : decode b_Md_meets 177 = .ok (.lcmp, 1) := by decide +kernel
theorem d_Md_meets_178 : decode b_Md_meets 178 = .ok (.ifCond .ge 21, 3) := by decide +kernel
theorem d_Md_meets_181 : decode b_Md_meets 181 = .ok (.aload_n 0, 1) := by decide +kernel
theorem d_Md_meets_182 : decode b_Md_meets 182 = .ok (.aload_n 0, 1) := by decide +kernel
theorem d_Md_meets_183 : decode b_Md_meets 183 = .ok (.getfield 85, 3) := by decide +kernel
theorem d_Md_meets_186 : decode b_Md_meets 186 = .ok (.lneg, 1) := by decide +kernel
theorem d_Md_meets_187 : decode b_Md_meets 187 = .ok (.putfield 85, 3) := by decide +kernel
theorem d_Md_meets_190 : decode b_Md_meets 190 = .ok (.aload_n 0, 1) := by decide +kernel
theorem d_Md_meets_191 : decode b_Md_meets 191 = .ok (.aload_n 0, 1) := by decide +kernel
theorem d_Md_meets_192 : decode b_Md_meets 192 = .ok (.getfield 88, 3) := by decide +kernel
theorem d_Md_meets_195 : decode b_Md_meets 195 = .ok (.lneg, 1) := by decide +kernel
theorem d_Md_meets_196 : decode b_Md_meets 196 = .ok (.putfield 88, 3) := by decide +kernel
theorem d_Md_meets_199 : decode b_Md_meets 199 = .ok (.aload_n 0, 1) := by decide +kernel
theorem d_Md_meets_200 : decode b_Md_meets 200 = .ok (.getfield 78, 3) := by decide +kernel
theorem d_Md_meets_203 : decode b_Md_meets 203 = .ok (.lconst 0, 1) := by decide +kernel
theorem d_Md_meets_204 : decode b_Md_meets 204 = .ok (.lcmp, 1) := by decide +kernel
theorem d_Md_meets_205 : decode b_Md_meets 205 = .ok (.ifCond .ge 7, 3) := by decide +kernel
theorem d_Md_meets_208 : decode b_Md_meets 208 = .ok (.iconst 1, 1) := by decide +kernel
theorem d_Md_meets_209 : decode b_Md_meets 209 = .ok (.goto 4, 3) := by decide +kernel
theorem d_Md_meets_212 : decode b_Md_meets 212 = .ok (.iconst 0, 1) := by decide +kernel
theorem d_Md_meets_213 : decode b_Md_meets 213 = .ok (.aload_n 0, 1) := by decide +kernel
theorem d_Md_meets_214 : decode b_Md_meets 214 = .ok (.getfield 82, 3) := by decide +kernel
theorem d_Md_meets_217 : decode b_Md_meets 217 = .ok (.lconst 0, 1) := by decide +kernel
theorem d_Md_meets_218 : decode b_Md_meets 218 = .ok (.lcmp, 1) := by decide +kernel
theorem d_Md_meets_219 : decode b_Md_meets 219 = .ok (.ifCond .ge 7, 3) := by decide +kernel
theorem d_Md_meets_222 : decode b_Md_meets 222 = .ok (.iconst 1, 1) := by decide +kernel
theorem d_Md_meets_223 : decode b_Md_meets 223 = .ok (.goto 4, 3) := by decide +kernel
theorem d_Md_meets_226 : decode b_Md_meets 226 = .ok (.iconst 0, 1) := by decide +kernel
theorem d_Md_meets_227 : decode b_Md_meets 227 = .ok (.if_icmp .eq 16, 3) := by decide +kernel
theorem d_Md_meets_230 : decode b_Md_meets 230 = .ok (.aload_n 0, 1) := by decide +kernel
theorem d_Md_meets_231 : decode b_Md_meets 231 = .ok (.getfield 85, 3) := by decide +kernel
theorem d_Md_meets_234 : decode b_Md_meets 234 = .ok (.lconst 0, 1) := by decide +kernel
theorem d_Md_meets_235 : decode b_Md_meets 235 = .ok (.lcmp, 1) := by decide +kernel
theorem d_Md_meets_236 : decode b_Md_meets 236 = .ok (.ifCond .le 7, 3) := by decide +kernel
theorem d_Md_meets_239 : decode b_Md_meets 239 = .ok (.iconst 1, 1) := by decide +kernel
theorem d_Md_meets_240 : decode b_Md_meets 240 = .ok (.goto 4, 3) := by decide +kernel
theorem d_Md_meets_243 : decode b_Md_meets 243 = .ok (.iconst 0, 1) := by decide +kernel
theorem d_Md_meets_244 : decode b_Md_meets 244 = .ok (.ireturn, 1) := by decide +kernel
theorem d_Md_isAhead_0 : decode b_Md_isAhead 0 = .ok (.aload_n 0, 1) := by decide +kernel
theorem d_Md_isAhead_1 : decode b_Md_isAhead 1 = .ok (.iload_n 1, 1) := by decide +kernel
theorem d_Md_isAhead_2 : decode b_Md_isAhead 2 = .ok (.invokevirtual 94, 3) := by decide +kernel
theorem d_Md_isAhead_5 : decode b_Md_isAhead 5 = .ok (.istore_n 3, 1) := by decide +kernel
theorem d_Md_isAhead_6 : decode b_Md_isAhead 6 = .ok (.aload_n 0, 1) := by decide +kernel
theorem d_Md_isAhead_7 : decode b_Md_isAhead 7 = .ok (.getfield 85, 3) := by decide +kernel
theorem d_Md_isAhead_10 : decode b_Md_isAhead 10 = .ok (.lstore 4, 2) := by decide +kernel
theorem d_Md_isAhead_12 : decode b_Md_isAhead 12 = .ok (.aload_n 0, 1) := by decide +kernel
theorem d_Md_isAhead_13 : decode b_Md_isAhead 13 = .ok (.getfield 88, 3) := by decide +kernel
theorem d_Md_isAhead_16 : decode b_Md_isAhead 16 = .ok (.lstore 6, 2) := by decide +kernel
theorem d_Md_isAhead_18 : decode b_Md_isAhead 18 = .ok (.aload_n 0, 1) := by decide +kernel
theorem d_Md_isAhead_19 : decode b_Md_isAhead 19 = .ok (.iload_n 2, 1) := by decide +kernel
theorem d_Md_isAhead_20 : decode b_Md_isAhead 20 = .ok (.invokevirtual 94, 3) := by decide +kernel
theorem d_Md_isAhead_23 : decode b_Md_isAhead 23 = .ok (.istore_n 3, 1) := by decide +kernel
theorem d_Md_isAhead_24 : decode b_Md_isAhead 24 = .ok (.lload 4, 2) := by decide +kernel
theorem d_Md_isAhead_26 : decode b_Md_isAhead 26 = .ok (.aload_n 0, 1) := by decide +kernel
theorem d_Md_isAhead_27 : decode b_Md_isAhead 27 = .ok (.getfield 88, 3) := by decide +kernel
theorem d_Md_isAhead_30 : decode b_Md_isAhead 30 = .ok (.lmul, 1) := by decide +kernel
theorem d_Md_isAhead_31 : decode b_Md_isAhead 31 = .ok (.aload_n 0, 1) := by decide +kernel
theorem d_Md_isAhead_32 : decode b_Md_isAhead 32 = .ok (.getfield 85, 3) := by decide +kernel
theorem d_Md_isAhead_35 : decode b_Md_isAhead 35 = .ok (.lload 6, 2) := by decide +kernel
theorem d_Md_isAhead_37 : decode b_Md_isAhead 37 = .ok (.lmul, 1) := by decide +kernel
theorem d_Md_isAhead_38 : decode b_Md_isAhead 38 = .ok (.lcmp, 1) := by decide +kernel
theorem d_Md_isAhead_39 : decode b_Md_isAhead 39 = .ok (.ifCond .lt 26, 3) := by decide +kernel
theorem d_Md_isAhead_42 : decode b_Md_isAhead 42 = .ok (.lload 4, 2) := by decide +kernel
theorem d_Md_isAhead_44 : decode b_Md_isAhead 44 = .ok (.aload_n 0, 1) := by decide +kernel
theorem d_Md_isAhead_45 : decode b_Md_isAhead 45 = .ok (.getfield 88, 3) := by decide +kernel
theorem d_Md_isAhead_48 : decode b_Md_isAhead 48 = .ok (.lmul, 1) := by decide +kernel
theorem d_Md_isAhead_49 : decode b_Md_isAhead 49 = .ok (.aload_n 0, 1) := by decide +kernel
theorem d_Md_isAhead_50 : decode b_Md_isAhead 50 = .ok (.getfield 85, 3) := by decide +kernel
theorem d_Md_isAhead_53 : decode b_Md_isAhead 53 = .ok (.lload 6, 2) := by decide +kernel
theorem d_Md_isAhead_55 : decode b_Md_isAhead 55 = .ok (.lmul, 1) := by decide +kernel
theorem d_Md_isAhead_56 : decode b_Md_isAhead 56 = .ok (.lcmp, 1) := by decide +kernel
theorem d_Md_isAhead_57 : decode b_Md_isAhead 57 = .ok (.ifCond .ne 12, 3) := by decide +kernel
theorem d_Md_isAhead_60 : decode b_Md_isAhead 60 = .ok (.iload_n 1, 1) := by decide +kernel
theorem d_Md_isAhead_61 : decode b_Md_isAhead 61 = .ok (.iload_n 2, 1) := by decide +kernel
theorem d_Md_isAhead_62 : decode b_Md_isAhead 62 = .ok (.if_icmp .ge 7, 3) := by decide +kernel
theorem d_Md_isAhead_65 : decode b_Md_isAhead 65 = .ok (.iconst 1, 1) := by decide +kernel
theorem d_Md_isAhead_66 : decode b_Md_isAhead 66 = .ok (.goto 4, 3) := by decide +kernel
theorem d_Md_isAhead_69 : decode b_Md_isAhead 69 = .ok (.iconst 0, 1) := by decide +kernel
theorem d_Md_isAhead_70 : decode b_Md_isAhead 70 = .ok (.ireturn, 1) := by decide +kernel
theorem d_Md_gather_0 : decode b_Md_gather 0 = .ok (.iconst 0, 1) := by decide +kernel
theorem d_Md_gather_1 : decode b_Md_gather 1 = .ok (.istore_n 1, 1) := by decide +kernel
theorem d_Md_gather_2 : decode b_Md_gather 2 = .ok (.iconst 0, 1) := by decide +kernel
theorem d_Md_gather_3 : decode b_Md_gather 3 = .ok (.istore_n 2, 1) := by decide +kernel
theorem d_Md_gather_4 : decode b_Md_gather 4 = .ok (.iload_n 2, 1) := by decide +kernel
theorem d_Md_gather_5 : decode b_Md_gather 5 = .ok (.bipush 64, 2) := by decide +kernel
theorem d_Md_gather_7 : decode b_Md_gather 7 = .ok (.if_icmp .ge 85, 3) := by decide +kernel
theorem d_Md_gather_10 : decode b_Md_gather 10 = .ok (.aload_n 0, 1) := by decide +kernel
theorem d_Md_gather_11 : decode b_Md_gather 11 = .ok (.getfield 62, 3) := by decide +kernel
theorem d_Md_gather_14 : decode b_Md_gather 14 = .ok (.ifCond .eq 78, 3) := by decide +kernel
theorem d_Md_gather_17 : decode b_Md_gather 17 = .ok (.aload_n 0, 1) := by decide +kernel
theorem d_Md_gather_18 : decode b_Md_gather 18 = .ok (.getfield 7, 3) := by decide +kernel
theorem d_Md_gather_21 : decode b_Md_gather 21 = .ok (.iload_n 2, 1) := by decide +kernel
theorem d_Md_gather_22 : decode b_Md_gather 22 = .ok (.baload, 1) := by decide +kernel
theorem d_Md_gather_23 : decode b_Md_gather 23 = .ok (.ifCond .eq 63, 3) := by decide +kernel
theorem d_Md_gather_26 : decode b_Md_gather 26 = .ok (.aload_n 0, 1) := by decide +kernel
theorem d_Md_gather_27 : decode b_Md_gather 27 = .ok (.iload_n 2, 1) := by decide +kernel
theorem d_Md_gather_28 : decode b_Md_gather 28 = .ok (.invokevirtual 94, 3) := by decide +kernel
theorem d_Md_gather_31 : decode b_Md_gather 31 = .ok (.ifCond .eq 55, 3) := by decide +kernel
theorem d_Md_gather_34 : decode b_Md_gather 34 = .ok (.iload_n 1, 1) := by decide +kernel
theorem d_Md_gather_35 : decode b_Md_gather 35 = .ok (.istore_n 3, 1) := by decide +kernel
theorem d_Md_gather_36 : decode b_Md_gather 36 = .ok (.iload_n 3, 1) := by decide +kernel
theorem d_Md_gather_37 : decode b_Md_gather 37 = .ok (.ifCond .le 39, 3) := by decide +kernel
theorem d_Md_gather_40 : decode b_Md_gather 40 = .ok (.aload_n 0, 1) := by decide +kernel
theorem d_Md_gather_41 : decode b_Md_gather 41 = .ok (.iload_n 2, 1) := by decide +kernel
theorem d_Md_gather_42 : decode b_Md_gather 42 = .ok (.aload_n 0, 1) := by decide +kernel
theorem d_Md_gather_43 : decode b_Md_gather 43 = .ok (.getfield 26, 3) := by decide +kernel
theorem d_Md_gather_46 : decode b_Md_gather 46 = .ok (.iload_n 3, 1) := by decide +kernel
theorem d_Md_gather_47 : decode b_Md_gather 47 = .ok (.iconst 1, 1) := by decide +kernel
theorem d_Md_gather_48 : decode b_Md_gather 48 = .ok (.isub, 1) := by decide +kernel
theorem d_Md_gather_49 : decode b_Md_gather 49 = .ok (.iaload, 1) := by decide +kernel
theorem d_Md_gather_50 : decode b_Md_gather 50 = .ok (.invokevirtual 97, 3) := by decide +kernel
theorem d_Md_gather_53 : decode b_Md_gather 53 = .ok (.ifCond .eq 23, 3) := by decide +kernel
theorem d_Md_gather_56 : decode b_Md_gather 56 = .ok (.aload_n 0, 1) := by decide +kernel
theorem d_Md_gather_57 : decode b_Md_gather 57 = .ok (.getfield 26, 3) := by decide +kernel
theorem d_Md_gather_60 : decode b_Md_gather 60 = .ok (.iload_n 3, 1) := by decide +kernel
theorem d_Md_gather_61 : decode b_Md_gather 61 = .ok (.aload_n 0, 1) := by decide +kernel
theorem d_Md_gather_62 : decode b_Md_gather 62 = .ok (.getfield 26, 3) := by decide +kernel
theorem d_Md_gather_65 : decode b_Md_gather 65 = .ok (.iload_n 3, 1) := by decide +kernel
theorem d_Md_gather_66 : decode b_Md_gather 66 = .ok (.iconst 1, 1) := by decide +kernel
theorem d_Md_gather_67 : decode b_Md_gather 67 = .ok (.isub, 1) := by decide +kernel
theorem d_Md_gather_68 : decode b_Md_gather 68 = .ok (.iaload, 1) := by decide +kernel
theorem d_Md_gather_69 : decode b_Md_gather 69 = .ok (.iastore, 1) := by decide +kernel
theorem d_Md_gather_70 : decode b_Md_gather 70 = .ok (.iinc 3 (-1), 3) := by decide +kernel
theorem d_Md_gather_73 : decode b_Md_gather 73 = .ok (.goto (-37), 3) := by decide +kernel
theorem d_Md_gather_76 : decode b_Md_gather 76 = .ok (.aload_n 0, 1) := by decide +kernel
theorem d_Md_gather_77 : decode b_Md_gather 77 = .ok (.getfield 26, 3) := by decide +kernel
theorem d_Md_gather_80 : decode b_Md_gather 80 = .ok (.iload_n 3, 1) := by decide +kernel
theorem d_Md_gather_81 : decode b_Md_gather 81 = .ok (.iload_n 2, 1) := by decide +kernel
theorem d_Md_gather_82 : decode b_Md_gather 82 = .ok (.iastore, 1) := by decide +kernel
theorem d_Md_gather_83 : decode b_Md_gather 83 = .ok (.iinc 1 1, 3) := by decide +kernel
theorem d_Md_gather_86 : decode b_Md_gather 86 = .ok (.iinc 2 1, 3) := by decide +kernel
theorem d_Md_gather_89 : decode b_Md_gather 89 = .ok (.goto (-85), 3) := by decide +kernel
theorem d_Md_gather_92 : decode b_Md_gather 92 = .ok (.iload_n 1, 1) := by decide +kernel
theorem d_Md_gather_93 : decode b_Md_gather 93 = .ok (.ireturn, 1) := by decide +kernel
theorem d_Md_met_0 : decode b_Md_met 0 = .ok (.aload_n 0, 1) := by decide +kernel
theorem d_Md_met_1 : decode b_Md_met 1 = .ok (.iconst 0, 1) := by decide +kernel
theorem d_Md_met_2 : decode b_Md_met 2 = .ok (.putfield 29, 3) := by decide +kernel
theorem d_Md_met_5 : decode b_Md_met 5 = .ok (.aload_n 0, 1) := by decide +kernel
theorem d_Md_met_6 : decode b_Md_met 6 = .ok (.getfield 62, 3) := by decide +kernel
theorem d_Md_met_9 : decode b_Md_met 9 = .ok (.ifCond .eq 10, 3) := by decide +kernel
theorem d_Md_met_12 : decode b_Md_met 12 = .ok (.aload_n 0, 1) := by decide +kernel
theorem d_Md_met_13 : decode b_Md_met 13 = .ok (.invokevirtual 100, 3) := by decide +kernel
theorem d_Md_met_16 : decode b_Md_met 16 = .ok (.goto 4, 3) := by decide +kernel
theorem d_Md_met_19 : decode b_Md_met 19 = .ok (.iconst (-1), 1) := by decide +kernel
theorem d_Md_met_20 : decode b_Md_met 20 = .ok (.ireturn, 1) := by decide +kernel
theorem d_Md_isMet_0 : decode b_Md_isMet 0 = .ok (.iload_n 1, 1) := by decide +kernel
theorem d_Md_isMet_1 : decode b_Md_isMet 1 = .ok (.ifCond .lt 15, 3) := by decide +kernel
theorem d_Md_isMet_4 : decode b_Md_isMet 4 = .ok (.iload_n 1, 1) := by decide +kernel
theorem d_Md_isMet_5 : decode b_Md_isMet 5 = .ok (.aload_n 0, 1) := by decide +kernel
theorem d_Md_isMet_6 : decode b_Md_isMet 6 = .ok (.invokevirtual 100, 3) := by decide +kernel
theorem d_Md_isMet_9 : decode b_Md_isMet 9 = .ok (.if_icmp .ge 7, 3) := by decide +kernel
theorem d_Md_isMet_12 : decode b_Md_isMet 12 = .ok (.iconst 1, 1) := by decide +kernel
theorem d_Md_isMet_13 : decode b_Md_isMet 13 = .ok (.goto 4, 3) := by decide +kernel
theorem d_Md_isMet_16 : decode b_Md_isMet 16 = .ok (.iconst 0, 1) := by decide +kernel
theorem d_Md_isMet_17 : decode b_Md_isMet 17 = .ok (.ireturn, 1) := by decide +kernel
theorem d_Md_wall_0 : decode b_Md_wall 0 = .ok (.aload_n 0, 1) := by decide +kernel
theorem d_Md_wall_1 : decode b_Md_wall 1 = .ok (.iconst 0, 1) := by decide +kernel
theorem d_Md_wall_2 : decode b_Md_wall 2 = .ok (.putfield 29, 3) := by decide +kernel
theorem d_Md_wall_5 : decode b_Md_wall 5 = .ok (.aload_n 0, 1) := by decide +kernel
theorem d_Md_wall_6 : decode b_Md_wall 6 = .ok (.iload_n 1, 1) := by decide +kernel
theorem d_Md_wall_7 : decode b_Md_wall 7 = .ok (.invokevirtual 103, 3) := by decide +kernel
theorem d_Md_wall_10 : decode b_Md_wall 10 = .ok (.ifCond .eq 12, 3) := by decide +kernel
theorem d_Md_wall_13 : decode b_Md_wall 13 = .ok (.aload_n 0, 1) := by decide +kernel
theorem d_Md_wall_14 : decode b_Md_wall 14 = .ok (.getfield 26, 3) := by decide +kernel
theorem d_Md_wall_17 : decode b_Md_wall 17 = .ok (.iload_n 1, 1) := by decide +kernel
theorem d_Md_wall_18 : decode b_Md_wall 18 = .ok (.iaload, 1) := by decide +kernel
theorem d_Md_wall_19 : decode b_Md_wall 19 = .ok (.goto 4, 3) := by decide +kernel
theorem d_Md_wall_22 : decode b_Md_wall 22 = .ok (.iconst (-1), 1) := by decide +kernel
theorem d_Md_wall_23 : decode b_Md_wall 23 = .ok (.ireturn, 1) := by decide +kernel
theorem d_Md_isRight_0 : decode b_Md_isRight 0 = .ok (.aload_n 0, 1) := by decide +kernel
theorem d_Md_isRight_1 : decode b_Md_isRight 1 = .ok (.iconst 0, 1) := by decide +kernel
theorem d_Md_isRight_2 : decode b_Md_isRight 2 = .ok (.putfield 29, 3) := by decide +kernel
theorem d_Md_isRight_5 : decode b_Md_isRight 5 = .ok (.aload_n 0, 1) := by decide +kernel
theorem d_Md_isRight_6 : decode b_Md_isRight 6 = .ok (.iload_n 1, 1) := by decide +kernel
theorem d_Md_isRight_7 : decode b_Md_isRight 7 = .ok (.invokevirtual 103, 3) := by decide +kernel
theorem d_Md_isRight_10 : decode b_Md_isRight 10 = .ok (.ifCond .eq 27, 3) := by decide +kernel
theorem d_Md_isRight_13 : decode b_Md_isRight 13 = .ok (.aload_n 0, 1) := by decide +kernel
theorem d_Md_isRight_14 : decode b_Md_isRight 14 = .ok (.aload_n 0, 1) := by decide +kernel
theorem d_Md_isRight_15 : decode b_Md_isRight 15 = .ok (.getfield 26, 3) := by decide +kernel
theorem d_Md_isRight_18 : decode b_Md_isRight 18 = .ok (.iload_n 1, 1) := by decide +kernel
theorem d_Md_isRight_19 : decode b_Md_isRight 19 = .ok (.iaload, 1) := by decide +kernel
theorem d_Md_isRight_20 : decode b_Md_isRight 20 = .ok (.invokevirtual 94, 3) := by decide +kernel
theorem d_Md_isRight_23 : decode b_Md_isRight 23 = .ok (.ifCond .eq 14, 3) := by decide +kernel
theorem d_Md_isRight_26 : decode b_Md_isRight 26 = .ok (.aload_n 0, 1) := by decide +kernel
theorem d_Md_isRight_27 : decode b_Md_isRight 27 = .ok (.getfield 91, 3) := by decide +kernel
theorem d_Md_isRight_30 : decode b_Md_isRight 30 = .ok (.ifCond .eq 7, 3) := by decide +kernel
theorem d_Md_isRight_33 : decode b_Md_isRight 33 = .ok (.iconst 1, 1) := by decide +kernel
theorem d_Md_isRight_34 : decode b_Md_isRight 34 = .ok (.goto 4, 3) := by decide +kernel
theorem d_Md_isRight_37 : decode b_Md_isRight 37 = .ok (.iconst 0, 1) := by decide +kernel
theorem d_Md_isRight_38 : decode b_Md_isRight 38 = .ok (.ireturn, 1) := by decide +kernel
theorem d_Md_times_0 : decode b_Md_times 0 = .ok (.aload_n 0, 1) := by decide +kernel
theorem d_Md_times_1 : decode b_Md_times 1 = .ok (.iconst 0, 1) := by decide +kernel
theorem d_Md_times_2 : decode b_Md_times 2 = .ok (.putfield 29, 3) := by decide +kernel
theorem d_Md_times_5 : decode b_Md_times 5 = .ok (.aload_n 0, 1) := by decide +kernel
theorem d_Md_times_6 : decode b_Md_times 6 = .ok (.iload_n 1, 1) := by decide +kernel
theorem d_Md_times_7 : decode b_Md_times 7 = .ok (.invokevirtual 103, 3) := by decide +kernel
theorem d_Md_times_10 : decode b_Md_times 10 = .ok (.ifCond .eq 13, 3) := by decide +kernel
theorem d_Md_times_13 : decode b_Md_times 13 = .ok (.iload_n 2, 1) := by decide +kernel
theorem d_Md_times_14 : decode b_Md_times 14 = .ok (.ifCond .lt 9, 3) := by decide +kernel
theorem d_Md_times_17 : decode b_Md_times 17 = .ok (.iload_n 2, 1) := by decide +kernel
theorem d_Md_times_18 : decode b_Md_times 18 = .ok (.ldc 106, 2) := by decide +kernel
theorem d_Md_times_20 : decode b_Md_times 20 = .ok (.if_icmp .le 7, 3) := by decide +kernel
theorem d_Md_times_23 : decode b_Md_times 23 = .ok (.ldc2_w 107, 3) := by decide +kernel
theorem d_Md_times_26 : decode b_Md_times 26 = .ok (.lreturn, 1) := by decide +kernel
theorem d_Md_times_27 : decode b_Md_times 27 = .ok (.aload_n 0, 1) := by decide +kernel
theorem d_Md_times_28 : decode b_Md_times 28 = .ok (.aload_n 0, 1) := by decide +kernel
theorem d_Md_times_29 : decode b_Md_times 29 = .ok (.getfield 26, 3) := by decide +kernel
theorem d_Md_times_32 : decode b_Md_times 32 = .ok (.iload_n 1, 1) := by decide +kernel
theorem d_Md_times_33 : decode b_Md_times 33 = .ok (.iaload, 1) := by decide +kernel
theorem d_Md_times_34 : decode b_Md_times 34 = .ok (.invokevirtual 94, 3) := by decide +kernel
theorem d_Md_times_37 : decode b_Md_times 37 = .ok (.istore_n 3, 1) := by decide +kernel
theorem d_Md_times_38 : decode b_Md_times 38 = .ok (.iload_n 2, 1) := by decide +kernel
theorem d_Md_times_39 : decode b_Md_times 39 = .ok (.i2l, 1) := by decide +kernel
theorem d_Md_times_40 : decode b_Md_times 40 = .ok (.aload_n 0, 1) := by decide +kernel
theorem d_Md_times_41 : decode b_Md_times 41 = .ok (.getfield 85, 3) := by decide +kernel
theorem d_Md_times_44 : decode b_Md_times 44 = .ok (.lmul, 1) := by decide +kernel
theorem d_Md_times_45 : decode b_Md_times 45 = .ok (.aload_n 0, 1) := by decide +kernel
theorem d_Md_times_46 : decode b_Md_times 46 = .ok (.getfield 88, 3) := by decide +kernel
theorem d_Md_times_49 : decode b_Md_times 49 = .ok (.ldiv, 1) := by decide +kernel
theorem d_Md_times_50 : decode b_Md_times 50 = .ok (.lreturn, 1) := by decide +kernel
theorem d_Md_along_0 : decode b_Md_along 0 = .ok (.aload_n 0, 1) := by decide +kernel
theorem d_Md_along_1 : decode b_Md_along 1 = .ok (.iconst 0, 1) := by decide +kernel
theorem d_Md_along_2 : decode b_Md_along 2 = .ok (.putfield 29, 3) := by decide +kernel
theorem d_Md_along_5 : decode b_Md_along 5 = .ok (.aload_n 0, 1) := by decide +kernel
theorem d_Md_along_6 : decode b_Md_along 6 = .ok (.iload_n 1, 1) := by decide +kernel
theorem d_Md_along_7 : decode b_Md_along 7 = .ok (.invokevirtual 103, 3) := by decide +kernel
theorem d_Md_along_10 : decode b_Md_along 10 = .ok (.ifCond .ne 5, 3) := by decide +kernel
theorem d_Md_along_13 : decode b_Md_along 13 = .ok (.iconst (-1), 1) := by decide +kernel
theorem d_Md_along_14 : decode b_Md_along 14 = .ok (.ireturn, 1) := by decide +kernel
theorem d_Md_along_15 : decode b_Md_along 15 = .ok (.aload_n 0, 1) := by decide +kernel
theorem d_Md_along_16 : decode b_Md_along 16 = .ok (.aload_n 0, 1) := by decide +kernel
theorem d_Md_along_17 : decode b_Md_along 17 = .ok (.getfield 26, 3) := by decide +kernel
theorem d_Md_along_20 : decode b_Md_along 20 = .ok (.iload_n 1, 1) := by decide +kernel
theorem d_Md_along_21 : decode b_Md_along 21 = .ok (.iaload, 1) := by decide +kernel
theorem d_Md_along_22 : decode b_Md_along 22 = .ok (.invokevirtual 94, 3) := by decide +kernel
theorem d_Md_along_25 : decode b_Md_along 25 = .ok (.istore_n 2, 1) := by decide +kernel
theorem d_Md_along_26 : decode b_Md_along 26 = .ok (.ldc2_w 109, 3) := by decide +kernel
theorem d_Md_along_29 : decode b_Md_along 29 = .ok (.aload_n 0, 1) := by decide +kernel
theorem d_Md_along_30 : decode b_Md_along 30 = .ok (.getfield 78, 3) := by decide +kernel
theorem d_Md_along_33 : decode b_Md_along 33 = .ok (.lmul, 1) := by decide +kernel
theorem d_Md_along_34 : decode b_Md_along 34 = .ok (.aload_n 0, 1) := by decide +kernel
theorem d_Md_along_35 : decode b_Md_along 35 = .ok (.getfield 78, 3) := by decide +kernel
theorem d_Md_along_38 : decode b_Md_along 38 = .ok (.aload_n 0, 1) := by decide +kernel
theorem d_Md_along_39 : decode b_Md_along 39 = .ok (.getfield 82, 3) := by decide +kernel
theorem d_Md_along_42 : decode b_Md_along 42 = .ok (.lsub, 1) := by decide +kernel
theorem d_Md_along_43 : decode b_Md_along 43 = .ok (.invokestatic 111, 3) := by decide +kernel
theorem d_Md_along_46 : decode b_Md_along 46 = .ok (.l2i, 1) := by decide +kernel
theorem d_Md_along_47 : decode b_Md_along 47 = .ok (.ireturn, 1) := by decide +kernel
theorem d_Md_within_0 : decode b_Md_within 0 = .ok (.aload_n 0, 1) := by decide +kernel
theorem d_Md_within_1 : decode b_Md_within 1 = .ok (.iconst 0, 1) := by decide +kernel
theorem d_Md_within_2 : decode b_Md_within 2 = .ok (.putfield 29, 3) := by decide +kernel
theorem d_Md_within_5 : decode b_Md_within 5 = .ok (.aload_n 0, 1) := by decide +kernel
theorem d_Md_within_6 : decode b_Md_within 6 = .ok (.getfield 62, 3) := by decide +kernel
theorem d_Md_within_9 : decode b_Md_within 9 = .ok (.ifCond .eq 24, 3) := by decide +kernel
theorem d_Md_within_12 : decode b_Md_within 12 = .ok (.iload_n 1, 1) := by decide +kernel
theorem d_Md_within_13 : decode b_Md_within 13 = .ok (.ifCond .lt 20, 3) := by decide +kernel
theorem d_Md_within_16 : decode b_Md_within 16 = .ok (.iload_n 1, 1) := by decide +kernel
theorem d_Md_within_17 : decode b_Md_within 17 = .ok (.ldc 106, 2) := by decide +kernel
theorem d_Md_within_19 : decode b_Md_within 19 = .ok (.if_icmp .gt 14, 3) := by decide +kernel
theorem d_Md_within_22 : decode b_Md_within 22 = .ok (.iload_n 2, 1) := by decide +kernel
theorem d_Md_within_23 : decode b_Md_within 23 = .ok (.iconst 1, 1) := by decide +kernel
theorem d_Md_within_24 : decode b_Md_within 24 = .ok (.if_icmp .lt 9, 3) := by decide +kernel
theorem d_Md_within_27 : decode b_Md_within 27 = .ok (.iload_n 2, 1) := by decide +kernel
theorem d_Md_within_28 : decode b_Md_within 28 = .ok (.ldc 106, 2) := by decide +kernel
theorem d_Md_within_30 : decode b_Md_within 30 = .ok (.if_icmp .le 5, 3) := by decide +kernel
theorem d_Md_within_33 : decode b_Md_within 33 = .ok (.iconst (-1), 1) := by decide +kernel
theorem d_Md_within_34 : decode b_Md_within 34 = .ok (.ireturn, 1) := by decide +kernel
theorem d_Md_within_35 : decode b_Md_within 35 = .ok (.iconst 0, 1) := by decide +kernel
theorem d_Md_within_36 : decode b_Md_within 36 = .ok (.istore_n 3, 1) := by decide +kernel
theorem d_Md_within_37 : decode b_Md_within 37 = .ok (.iconst 0, 1) := by decide +kernel
theorem d_Md_within_38 : decode b_Md_within 38 = .ok (.istore 4, 2) := by decide +kernel
theorem d_Md_within_40 : decode b_Md_within 40 = .ok (.iload 4, 2) := by decide +kernel
theorem d_Md_within_42 : decode b_Md_within 42 = .ok (.bipush 64, 2) := by decide +kernel
theorem d_Md_within_44 : decode b_Md_within 44 = .ok (.if_icmp .ge 54, 3) := by decide +kernel
theorem d_Md_within_47 : decode b_Md_within 47 = .ok (.aload_n 0, 1) := by decide +kernel
theorem d_Md_within_48 : decode b_Md_within 48 = .ok (.getfield 7, 3) := by decide +kernel
theorem d_Md_within_51 : decode b_Md_within 51 = .ok (.iload 4, 2) := by decide +kernel
theorem d_Md_within_53 : decode b_Md_within 53 = .ok (.baload, 1) := by decide +kernel
theorem d_Md_within_54 : decode b_Md_within 54 = .ok (.ifCond .eq 38, 3) := by decide +kernel
theorem d_Md_within_57 : decode b_Md_within 57 = .ok (.aload_n 0, 1) := by decide +kernel
theorem d_Md_within_58 : decode b_Md_within 58 = .ok (.iload 4, 2) := by decide +kernel
theorem d_Md_within_60 : decode b_Md_within 60 = .ok (.invokevirtual 94, 3) := by decide +kernel
theorem d_Md_within_63 : decode b_Md_within 63 = .ok (.ifCond .eq 29, 3) := by decide +kernel
theorem d_Md_within_66 : decode b_Md_within 66 = .ok (.iload_n 3, 1) := by decide +kernel
theorem d_Md_within_67 : decode b_Md_within 67 = .ok (.aload_n 0, 1) := by decide +kernel
theorem d_Md_within_68 : decode b_Md_within 68 = .ok (.getfield 85, 3) := by decide +kernel
theorem d_Md_within_71 : decode b_Md_within 71 = .ok (.iload_n 2, 1) := by decide +kernel
theorem d_Md_within_72 : decode b_Md_within 72 = .ok (.i2l, 1) := by decide +kernel
theorem d_Md_within_73 : decode b_Md_within 73 = .ok (.lmul, 1) := by decide +kernel
theorem d_Md_within_74 : decode b_Md_within 74 = .ok (.iload_n 1, 1) := by decide +kernel
theorem d_Md_within_75 : decode b_Md_within 75 = .ok (.i2l, 1) := by decide +kernel
theorem d_Md_within_76 : decode b_Md_within 76 = .ok (.aload_n 0, 1) := by decide +kernel
theorem d_Md_within_77 : decode b_Md_within 77 = .ok (.getfield 88, 3) := by decide +kernel
theorem d_Md_within_80 : decode b_Md_within 80 = .ok (.lmul, 1) := by decide +kernel
theorem d_Md_within_81 : decode b_Md_within 81 = .ok (.lcmp, 1) := by decide +kernel
theorem d_Md_within_82 : decode b_Md_within 82 = .ok (.ifCond .gt 7, 3) := by decide +kernel
theorem d_Md_within_85 : decode b_Md_within 85 = .ok (.iconst 1, 1) := by decide +kernel
theorem d_Md_within_86 : decode b_Md_within 86 = .ok (.goto 4, 3) := by decide +kernel
theorem d_Md_within_89 : decode b_Md_within 89 = .ok (.iconst 0, 1) := by decide +kernel
theorem d_Md_within_90 : decode b_Md_within 90 = .ok (.iadd, 1) := by decide +kernel
theorem d_Md_within_91 : decode b_Md_within 91 = .ok (.istore_n 3, 1) := by decide +kernel
theorem d_Md_within_92 : decode b_Md_within 92 = .ok (.iinc 4 1, 3) := by decide +kernel
theorem d_Md_within_95 : decode b_Md_within 95 = .ok (.goto (-55), 3) := by decide +kernel
theorem d_Md_within_98 : decode b_Md_within 98 = .ok (.iload_n 3, 1) := by decide +kernel
theorem d_Md_within_99 : decode b_Md_within 99 = .ok (.ireturn, 1) := by decide +kernel
theorem d_Md_on_0 : decode b_Md_on 0 = .ok (.aload_n 0, 1) := by decide +kernel
theorem d_Md_on_1 : decode b_Md_on 1 = .ok (.iconst 0, 1) := by decide +kernel
theorem d_Md_on_2 : decode b_Md_on 2 = .ok (.putfield 29, 3) := by decide +kernel
theorem d_Md_on_5 : decode b_Md_on 5 = .ok (.iconst 0, 1) := by decide +kernel
theorem d_Md_on_6 : decode b_Md_on 6 = .ok (.istore_n 3, 1) := by decide +kernel
theorem d_Md_on_7 : decode b_Md_on 7 = .ok (.iload_n 3, 1) := by decide +kernel
theorem d_Md_on_8 : decode b_Md_on 8 = .ok (.bipush 64, 2) := by decide +kernel
theorem d_Md_on_10 : decode b_Md_on 10 = .ok (.if_icmp .ge 50, 3) := by decide +kernel
theorem d_Md_on_13 : decode b_Md_on 13 = .ok (.iload_n 1, 1) := by decide +kernel
theorem d_Md_on_14 : decode b_Md_on 14 = .ok (.sipush 4000, 3) := by decide +kernel
theorem d_Md_on_17 : decode b_Md_on 17 = .ok (.invokestatic 48, 3) := by decide +kernel
theorem d_Md_on_20 : decode b_Md_on 20 = .ok (.ifCond .eq 40, 3) := by decide +kernel
theorem d_Md_on_23 : decode b_Md_on 23 = .ok (.iload_n 2, 1) := by decide +kernel
theorem d_Md_on_24 : decode b_Md_on 24 = .ok (.sipush 4000, 3) := by decide +kernel
theorem d_Md_on_27 : decode b_Md_on 27 = .ok (.invokestatic 48, 3) := by decide +kernel
theorem d_Md_on_30 : decode b_Md_on 30 = .ok (.ifCond .eq 30, 3) := by decide +kernel
theorem d_Md_on_33 : decode b_Md_on 33 = .ok (.aload_n 0, 1) := by decide +kernel
theorem d_Md_on_34 : decode b_Md_on 34 = .ok (.getfield 7, 3) := by decide +kernel
theorem d_Md_on_37 : decode b_Md_on 37 = .ok (.iload_n 3, 1) := by decide +kernel
theorem d_Md_on_38 : decode b_Md_on 38 = .ok (.baload, 1) := by decide +kernel
theorem d_Md_on_39 : decode b_Md_on 39 = .ok (.ifCond .eq 15, 3) := by decide +kernel
theorem d_Md_on_42 : decode b_Md_on 42 = .ok (.aload_n 0, 1) := by decide +kernel
theorem d_Md_on_43 : decode b_Md_on 43 = .ok (.iload_n 3, 1) := by decide +kernel
theorem d_Md_on_44 : decode b_Md_on 44 = .ok (.iload_n 1, 1) := by decide +kernel
theorem d_Md_on_45 : decode b_Md_on 45 = .ok (.iload_n 2, 1) := by decide +kernel
theorem d_Md_on_46 : decode b_Md_on 46 = .ok (.invokevirtual 41, 3) := by decide +kernel
theorem d_Md_on_49 : decode b_Md_on 49 = .ok (.ifCond .eq 5, 3) := by decide +kernel
theorem d_Md_on_52 : decode b_Md_on 52 = .ok (.iload_n 3, 1) := by decide +kernel
theorem d_Md_on_53 : decode b_Md_on 53 = .ok (.ireturn, 1) := by decide +kernel
theorem d_Md_on_54 : decode b_Md_on 54 = .ok (.iinc 3 1, 3) := by decide +kernel
theorem d_Md_on_57 : decode b_Md_on 57 = .ok (.goto (-50), 3) := by decide +kernel
theorem d_Md_on_60 : decode b_Md_on 60 = .ok (.iconst (-1), 1) := by decide +kernel
theorem d_Md_on_61 : decode b_Md_on 61 = .ok (.ireturn, 1) := by decide +kernel
theorem d_Md_of_0 : decode b_Md_of 0 = .ok (.aload_n 0, 1) := by decide +kernel
theorem d_Md_of_1 : decode b_Md_of 1 = .ok (.iconst 0, 1) := by decide +kernel
theorem d_Md_of_2 : decode b_Md_of 2 = .ok (.putfield 29, 3) := by decide +kernel
theorem d_Md_of_5 : decode b_Md_of 5 = .ok (.aload_n 0, 1) := by decide +kernel
theorem d_Md_of_6 : decode b_Md_of 6 = .ok (.iload_n 1, 1) := by decide +kernel
theorem d_Md_of_7 : decode b_Md_of 7 = .ok (.invokevirtual 58, 3) := by decide +kernel
theorem d_Md_of_10 : decode b_Md_of 10 = .ok (.ifCond .ne 6, 3) := by decide +kernel
theorem d_Md_of_13 : decode b_Md_of 13 = .ok (.ldc 115, 2) := by decide +kernel
theorem d_Md_of_15 : decode b_Md_of 15 = .ok (.ireturn, 1) := by decide +kernel
theorem d_Md_of_16 : decode b_Md_of 16 = .ok (.iload_n 2, 1) := by decide +kernel
theorem d_Md_of_17 : decode b_Md_of 17 = .ok (.ifCond .ne 12, 3) := by decide +kernel
theorem d_Md_of_20 : decode b_Md_of 20 = .ok (.aload_n 0, 1) := by decide +kernel
theorem d_Md_of_21 : decode b_Md_of 21 = .ok (.getfield 13, 3) := by decide +kernel
theorem d_Md_of_24 : decode b_Md_of 24 = .ok (.iload_n 1, 1) := by decide +kernel
theorem d_Md_of_25 : decode b_Md_of 25 = .ok (.iaload, 1) := by decide +kernel
theorem d_Md_of_26 : decode b_Md_of 26 = .ok (.goto 47, 3) := by decide +kernel
theorem d_Md_of_29 : decode b_Md_of 29 = .ok (.iload_n 2, 1) := by decide +kernel
theorem d_Md_of_30 : decode b_Md_of 30 = .ok (.iconst 1, 1) := by decide +kernel
theorem d_Md_of_31 : decode b_Md_of 31 = .ok (.if_icmp .ne 12, 3) := by decide +kernel
theorem d_Md_of_34 : decode b_Md_of 34 = .ok (.aload_n 0, 1) := by decide +kernel
theorem d_Md_of_35 : decode b_Md_of 35 = .ok (.getfield 17, 3) := by decide +kernel
theorem d_Md_of_38 : decode b_Md_of 38 = .ok (.iload_n 1, 1) := by decide +kernel
theorem d_Md_of_39 : decode b_Md_of 39 = .ok (.iaload, 1) := by decide +kernel
theorem d_Md_of_40 : decode b_Md_of 40 = .ok (.goto 33, 3) := by decide +kernel
theorem d_Md_of_43 : decode b_Md_of 43 = .ok (.iload_n 2, 1) := by decide +kernel
theorem d_Md_of_44 : decode b_Md_of 44 = .ok (.iconst 2, 1) := by decide +kernel
theorem d_Md_of_45 : decode b_Md_of 45 = .ok (.if_icmp .ne 12, 3) := by decide +kernel
theorem d_Md_of_48 : decode b_Md_of 48 = .ok (.aload_n 0, 1) := by decide +kernel
theorem d_Md_of_49 : decode b_Md_of 49 = .ok (.getfield 20, 3) := by decide +kernel
theorem d_Md_of_52 : decode b_Md_of 52 = .ok (.iload_n 1, 1) := by decide +kernel
theorem d_Md_of_53 : decode b_Md_of 53 = .ok (.iaload, 1) := by decide +kernel
theorem d_Md_of_54 : decode b_Md_of 54 = .ok (.goto 19, 3) := by decide +kernel
theorem d_Md_of_57 : decode b_Md_of 57 = .ok (.iload_n 2, 1) := by decide +kernel
theorem d_Md_of_58 : decode b_Md_of 58 = .ok (.iconst 3, 1) := by decide +kernel
theorem d_Md_of_59 : decode b_Md_of 59 = .ok (.if_icmp .ne 12, 3) := by decide +kernel
theorem d_Md_of_62 : decode b_Md_of 62 = .ok (.aload_n 0, 1) := by decide +kernel
theorem d_Md_of_63 : decode b_Md_of 63 = .ok (.getfield 23, 3) := by decide +kernel
theorem d_Md_of_66 : decode b_Md_of 66 = .ok (.iload_n 1, 1) := by decide +kernel
theorem d_Md_of_67 : decode b_Md_of 67 = .ok (.iaload, 1) := by decide +kernel
theorem d_Md_of_68 : decode b_Md_of 68 = .ok (.goto 5, 3) := by decide +kernel
theorem d_Md_of_71 : decode b_Md_of 71 = .ok (.ldc 115, 2) := by decide +kernel
theorem d_Md_of_73 : decode b_Md_of 73 = .ok (.ireturn, 1) := by decide +kernel
theorem d_Md_look_0 : decode b_Md_look 0 = .ok (.aload_n 0, 1) := by decide +kernel
theorem d_Md_look_1 : decode b_Md_look 1 = .ok (.iconst 0, 1) := by decide +kernel
theorem d_Md_look_2 : decode b_Md_look 2 = .ok (.putfield 29, 3) := by decide +kernel
theorem d_Md_look_5 : decode b_Md_look 5 = .ok (.iload_n 1, 1) := by decide +kernel
theorem d_Md_look_6 : decode b_Md_look 6 = .ok (.ifCond .ne 10, 3) := by decide +kernel
theorem d_Md_look_9 : decode b_Md_look 9 = .ok (.aload_n 0, 1) := by decide +kernel
theorem d_Md_look_10 : decode b_Md_look 10 = .ok (.getfield 55, 3) := by decide +kernel
theorem d_Md_look_13 : decode b_Md_look 13 = .ok (.goto 36, 3) := by decide +kernel
theorem d_Md_look_16 : decode b_Md_look 16 = .ok (.iload_n 1, 1) := by decide +kernel
theorem d_Md_look_17 : decode b_Md_look 17 = .ok (.iconst 1, 1) := by decide +kernel
theorem d_Md_look_18 : decode b_Md_look 18 = .ok (.if_icmp .ne 10, 3) := by decide +kernel
theorem d_Md_look_21 : decode b_Md_look 21 = .ok (.aload_n 0, 1) := by decide +kernel
theorem d_Md_look_22 : decode b_Md_look 22 = .ok (.invokevirtual 44, 3) := by decide +kernel
theorem d_Md_look_25 : decode b_Md_look 25 = .ok (.goto 24, 3) := by decide +kernel
theorem d_Md_look_28 : decode b_Md_look 28 = .ok (.iload_n 1, 1) := by decide +kernel
theorem d_Md_look_29 : decode b_Md_look 29 = .ok (.iconst 2, 1) := by decide +kernel
theorem d_Md_look_30 : decode b_Md_look 30 = .ok (.if_icmp .ne 18, 3) := by decide +kernel
theorem d_Md_look_33 : decode b_Md_look 33 = .ok (.aload_n 0, 1) := by decide +kernel
theorem d_Md_look_34 : decode b_Md_look 34 = .ok (.getfield 62, 3) := by decide +kernel
theorem d_Md_look_37 : decode b_Md_look 37 = .ok (.ifCond .eq 7, 3) := by decide +kernel
theorem d_Md_look_40 : decode b_Md_look 40 = .ok (.iconst 1, 1) := by decide +kernel
theorem d_Md_look_41 : decode b_Md_look 41 = .ok (.goto 8, 3) := by decide +kernel
theorem d_Md_look_44 : decode b_Md_look 44 = .ok (.iconst 0, 1) := by decide +kernel
theorem d_Md_look_45 : decode b_Md_look 45 = .ok (.goto 4, 3) := by decide +kernel
theorem d_Md_look_48 : decode b_Md_look 48 = .ok (.iconst (-1), 1) := by decide +kernel
theorem d_Md_look_49 : decode b_Md_look 49 = .ok (.ireturn, 1) := by decide +kernel
end
section
theorem d_Law_law_0 : decode code 0 = .ok (.new 7, 3) := by decide +kernel
theorem d_Law_law_3 : decode code 3 = .ok (.dup, 1) := by decide +kernel
theorem d_Law_law_4 : decode code 4 = .ok (.invokespecial 9, 3) := by decide +kernel
theorem d_Law_law_7 : decode code 7 = .ok (.astore_n 1, 1) := by decide +kernel
theorem d_Law_law_8 : decode code 8 = .ok (.new 10, 3) := by decide +kernel
theorem d_Law_law_11 : decode code 11 = .ok (.dup, 1) := by decide +kernel
theorem d_Law_law_12 : decode code 12 = .ok (.invokespecial 12, 3) := by decide +kernel
theorem d_Law_law_15 : decode code 15 = .ok (.astore_n 2, 1) := by decide +kernel
theorem d_Law_law_16 : decode code 16 = .ok (.iconst 0, 1) := by decide +kernel
theorem d_Law_law_17 : decode code 17 = .ok (.istore_n 3, 1) := by decide +kernel
theorem d_Law_law_18 : decode code 18 = .ok (.iload_n 3, 1) := by decide +kernel
theorem d_Law_law_19 : decode code 19 = .ok (.aload_n 0, 1) := by decide +kernel
theorem d_Law_law_20 : decode code 20 = .ok (.arraylength, 1) := by decide +kernel
theorem d_Law_law_21 : decode code 21 = .ok (.iconst 5, 1) := by decide +kernel
theorem d_Law_law_22 : decode code 22 = .ok (.isub, 1) := by decide +kernel
theorem d_Law_law_23 : decode code 23 = .ok (.if_icmp .gt 488, 3) := by decide +kernel
theorem d_Law_law_26 : decode code 26 = .ok (.aload_n 0, 1) := by decide +kernel
theorem d_Law_law_27 : decode code 27 = .ok (.iload_n 3, 1) := by decide +kernel
theorem d_Law_law_28 : decode code 28 = .ok (.iaload, 1) := by decide +kernel
theorem d_Law_law_29 : decode code 29 = .ok (.bipush 15, 2) := by decide +kernel
theorem d_Law_law_31 : decode code 31 = .ok (.iand, 1) := by decide +kernel
theorem d_Law_law_32 : decode code 32 = .ok (.tableswitch 473 0 13 #[72, 125, 148, 171, 182, 235, 248, 271, 294, 328, 351, 384, 417, 450], 72) := by decide +kernel
theorem d_Law_law_104 : decode code 104 = .ok (.aload_n 1, 1) := by decide +kernel
theorem d_Law_law_105 : decode code 105 = .ok (.aload_n 0, 1) := by decide +kernel
theorem d_Law_law_106 : decode code 106 = .ok (.iload_n 3, 1) := by decide +kernel
theorem d_Law_law_107 : decode code 107 = .ok (.iconst 1, 1) := by decide +kernel
theorem d_Law_law_108 : decode code 108 = .ok (.iadd, 1) := by decide +kernel
theorem d_Law_law_109 : decode code 109 = .ok (.iaload, 1) := by decide +kernel
theorem d_Law_law_110 : decode code 110 = .ok (.aload_n 0, 1) := by decide +kernel
theorem d_Law_law_111 : decode code 111 = .ok (.iload_n 3, 1) := by decide +kernel
theorem d_Law_law_112 : decode code 112 = .ok (.iconst 2, 1) := by decide +kernel
theorem d_Law_law_113 : decode code 113 = .ok (.iadd, 1) := by decide +kernel
theorem d_Law_law_114 : decode code 114 = .ok (.iaload, 1) := by decide +kernel
theorem d_Law_law_115 : decode code 115 = .ok (.aload_n 0, 1) := by decide +kernel
theorem d_Law_law_116 : decode code 116 = .ok (.iload_n 3, 1) := by decide +kernel
theorem d_Law_law_117 : decode code 117 = .ok (.iconst 3, 1) := by decide +kernel
theorem d_Law_law_118 : decode code 118 = .ok (.iadd, 1) := by decide +kernel
theorem d_Law_law_119 : decode code 119 = .ok (.iaload, 1) := by decide +kernel
theorem d_Law_law_120 : decode code 120 = .ok (.aload_n 0, 1) := by decide +kernel
theorem d_Law_law_121 : decode code 121 = .ok (.iload_n 3, 1) := by decide +kernel
theorem d_Law_law_122 : decode code 122 = .ok (.iconst 4, 1) := by decide +kernel
theorem d_Law_law_123 : decode code 123 = .ok (.iadd, 1) := by decide +kernel
theorem d_Law_law_124 : decode code 124 = .ok (.iaload, 1) := by decide +kernel
theorem d_Law_law_125 : decode code 125 = .ok (.invokevirtual 13, 3) := by decide +kernel
theorem d_Law_law_128 : decode code 128 = .ok (.aload_n 2, 1) := by decide +kernel
theorem d_Law_law_129 : decode code 129 = .ok (.aload_n 0, 1) := by decide +kernel
theorem d_Law_law_130 : decode code 130 = .ok (.iload_n 3, 1) := by decide +kernel
theorem d_Law_law_131 : decode code 131 = .ok (.iconst 1, 1) := by decide +kernel
theorem d_Law_law_132 : decode code 132 = .ok (.iadd, 1) := by decide +kernel
theorem d_Law_law_133 : decode code 133 = .ok (.iaload, 1) := by decide +kernel
theorem d_Law_law_134 : decode code 134 = .ok (.aload_n 0, 1) := by decide +kernel
theorem d_Law_law_135 : decode code 135 = .ok (.iload_n 3, 1) := by decide +kernel
theorem d_Law_law_136 : decode code 136 = .ok (.iconst 2, 1) := by decide +kernel
theorem d_Law_law_137 : decode code 137 = .ok (.iadd, 1) := by decide +kernel
theorem d_Law_law_138 : decode code 138 = .ok (.iaload, 1) := by decide +kernel
theorem d_Law_law_139 : decode code 139 = .ok (.aload_n 0, 1) := by decide +kernel
theorem d_Law_law_140 : decode code 140 = .ok (.iload_n 3, 1) := by decide +kernel
theorem d_Law_law_141 : decode code 141 = .ok (.iconst 3, 1) := by decide +kernel
theorem d_Law_law_142 : decode code 142 = .ok (.iadd, 1) := by decide +kernel
theorem d_Law_law_143 : decode code 143 = .ok (.iaload, 1) := by decide +kernel
theorem d_Law_law_144 : decode code 144 = .ok (.aload_n 0, 1) := by decide +kernel
theorem d_Law_law_145 : decode code 145 = .ok (.iload_n 3, 1) := by decide +kernel
theorem d_Law_law_146 : decode code 146 = .ok (.iconst 4, 1) := by decide +kernel
theorem d_Law_law_147 : decode code 147 = .ok (.iadd, 1) := by decide +kernel
theorem d_Law_law_148 : decode code 148 = .ok (.iaload, 1) := by decide +kernel
theorem d_Law_law_149 : decode code 149 = .ok (.invokevirtual 17, 3) := by decide +kernel
theorem d_Law_law_152 : decode code 152 = .ok (.if_icmp .eq 353, 3) := by decide +kernel
theorem d_Law_law_155 : decode code 155 = .ok (.iconst 0, 1) := by decide +kernel
theorem d_Law_law_156 : decode code 156 = .ok (.ireturn, 1) := by decide +kernel
theorem d_Law_law_157 : decode code 157 = .ok (.aload_n 1, 1) := by decide +kernel
theorem d_Law_law_158 : decode code 158 = .ok (.aload_n 0, 1) := by decide +kernel
theorem d_Law_law_159 : decode code 159 = .ok (.iload_n 3, 1) := by decide +kernel
theorem d_Law_law_160 : decode code 160 = .ok (.iconst 1, 1) := by decide +kernel
theorem d_Law_law_161 : decode code 161 = .ok (.iadd, 1) := by decide +kernel
theorem d_Law_law_162 : decode code 162 = .ok (.iaload, 1) := by decide +kernel
theorem d_Law_law_163 : decode code 163 = .ok (.invokevirtual 18, 3) := by decide +kernel
theorem d_Law_law_166 : decode code 166 = .ok (.aload_n 2, 1) := by decide +kernel
theorem d_Law_law_167 : decode code 167 = .ok (.aload_n 0, 1) := by decide +kernel
theorem d_Law_law_168 : decode code 168 = .ok (.iload_n 3, 1) := by decide +kernel
theorem d_Law_law_169 : decode code 169 = .ok (.iconst 1, 1) := by decide +kernel
theorem d_Law_law_170 : decode code 170 = .ok (.iadd, 1) := by decide +kernel
theorem d_Law_law_171 : decode code 171 = .ok (.iaload, 1) := by decide +kernel
theorem d_Law_law_172 : decode code 172 = .ok (.invokevirtual 22, 3) := by decide +kernel
theorem d_Law_law_175 : decode code 175 = .ok (.if_icmp .eq 330, 3) := by decide +kernel
theorem d_Law_law_178 : decode code 178 = .ok (.iconst 0, 1) := by decide +kernel
theorem d_Law_law_179 : decode code 179 = .ok (.ireturn, 1) := by decide +kernel
theorem d_Law_law_180 : decode code 180 = .ok (.aload_n 1, 1) := by decide +kernel
theorem d_Law_law_181 : decode code 181 = .ok (.aload_n 0, 1) := by decide +kernel
theorem d_Law_law_182 : decode code 182 = .ok (.iload_n 3, 1) := by decide +kernel
theorem d_Law_law_183 : decode code 183 = .ok (.iconst 1, 1) := by decide +kernel
theorem d_Law_law_184 : decode code 184 = .ok (.iadd, 1) := by decide +kernel
theorem d_Law_law_185 : decode code 185 = .ok (.iaload, 1) := by decide +kernel
theorem d_Law_law_186 : decode code 186 = .ok (.invokevirtual 23, 3) := by decide +kernel
theorem d_Law_law_189 : decode code 189 = .ok (.aload_n 2, 1) := by decide +kernel
theorem d_Law_law_190 : decode code 190 = .ok (.aload_n 0, 1) := by decide +kernel
theorem d_Law_law_191 : decode code 191 = .ok (.iload_n 3, 1) := by decide +kernel
theorem d_Law_law_192 : decode code 192 = .ok (.iconst 1, 1) := by decide +kernel
theorem d_Law_law_193 : decode code 193 = .ok (.iadd, 1) := by decide +kernel
theorem d_Law_law_194 : decode code 194 = .ok (.iaload, 1) := by decide +kernel
theorem d_Law_law_195 : decode code 195 = .ok (.invokevirtual 26, 3) := by decide +kernel
theorem d_Law_law_198 : decode code 198 = .ok (.if_icmp .eq 307, 3) := by decide +kernel
theorem d_Law_law_201 : decode code 201 = .ok (.iconst 0, 1) := by decide +kernel
theorem d_Law_law_202 : decode code 202 = .ok (.ireturn, 1) := by decide +kernel
theorem d_Law_law_203 : decode code 203 = .ok (.aload_n 1, 1) := by decide +kernel
theorem d_Law_law_204 : decode code 204 = .ok (.invokevirtual 27, 3) := by decide +kernel
theorem d_Law_law_207 : decode code 207 = .ok (.aload_n 2, 1) := by decide +kernel
theorem d_Law_law_208 : decode code 208 = .ok (.invokevirtual 30, 3) := by decide +kernel
theorem d_Law_law_211 : decode code 211 = .ok (.goto 294, 3) := by decide +kernel
theorem d_Law_law_214 : decode code 214 = .ok (.aload_n 1, 1) := by decide +kernel
theorem d_Law_law_215 : decode code 215 = .ok (.aload_n 0, 1) := by decide +kernel
theorem d_Law_law_216 : decode code 216 = .ok (.iload_n 3, 1) := by decide +kernel
theorem d_Law_law_217 : decode code 217 = .ok (.iconst 1, 1) := by decide +kernel
theorem d_Law_law_218 : decode code 218 = .ok (.iadd, 1) := by decide +kernel
theorem d_Law_law_219 : decode code 219 = .ok (.iaload, 1) := by decide +kernel
theorem d_Law_law_220 : decode code 220 = .ok (.aload_n 0, 1) := by decide +kernel
theorem d_Law_law_221 : decode code 221 = .ok (.iload_n 3, 1) := by decide +kernel
theorem d_Law_law_222 : decode code 222 = .ok (.iconst 2, 1) := by decide +kernel
theorem d_Law_law_223 : decode code 223 = .ok (.iadd, 1) := by decide +kernel
theorem d_Law_law_224 : decode code 224 = .ok (.iaload, 1) := by decide +kernel
theorem d_Law_law_225 : decode code 225 = .ok (.aload_n 0, 1) := by decide +kernel
theorem d_Law_law_226 : decode code 226 = .ok (.iload_n 3, 1) := by decide +kernel
theorem d_Law_law_227 : decode code 227 = .ok (.iconst 3, 1) := by decide +kernel
theorem d_Law_law_228 : decode code 228 = .ok (.iadd, 1) := by decide +kernel
theorem d_Law_law_229 : decode code 229 = .ok (.iaload, 1) := by decide +kernel
theorem d_Law_law_230 : decode code 230 = .ok (.aload_n 0, 1) := by decide +kernel
theorem d_Law_law_231 : decode code 231 = .ok (.iload_n 3, 1) := by decide +kernel
theorem d_Law_law_232 : decode code 232 = .ok (.iconst 4, 1) := by decide +kernel
theorem d_Law_law_233 : decode code 233 = .ok (.iadd, 1) := by decide +kernel
theorem d_Law_law_234 : decode code 234 = .ok (.iaload, 1) := by decide +kernel
theorem d_Law_law_235 : decode code 235 = .ok (.invokevirtual 31, 3) := by decide +kernel
theorem d_Law_law_238 : decode code 238 = .ok (.aload_n 2, 1) := by decide +kernel
theorem d_Law_law_239 : decode code 239 = .ok (.aload_n 0, 1) := by decide +kernel
theorem d_Law_law_240 : decode code 240 = .ok (.iload_n 3, 1) := by decide +kernel
theorem d_Law_law_241 : decode code 241 = .ok (.iconst 1, 1) := by decide +kernel
theorem d_Law_law_242 : decode code 242 = .ok (.iadd, 1) := by decide +kernel
theorem d_Law_law_243 : decode code 243 = .ok (.iaload, 1) := by decide +kernel
theorem d_Law_law_244 : decode code 244 = .ok (.aload_n 0, 1) := by decide +kernel
theorem d_Law_law_245 : decode code 245 = .ok (.iload_n 3, 1) := by decide +kernel
theorem d_Law_law_246 : decode code 246 = .ok (.iconst 2, 1) := by decide +kernel
theorem d_Law_law_247 : decode code 247 = .ok (.iadd, 1) := by decide +kernel
theorem d_Law_law_248 : decode code 248 = .ok (.iaload, 1) := by decide +kernel
theorem d_Law_law_249 : decode code 249 = .ok (.aload_n 0, 1) := by decide +kernel
theorem d_Law_law_250 : decode code 250 = .ok (.iload_n 3, 1) := by decide +kernel
theorem d_Law_law_251 : decode code 251 = .ok (.iconst 3, 1) := by decide +kernel
theorem d_Law_law_252 : decode code 252 = .ok (.iadd, 1) := by decide +kernel
theorem d_Law_law_253 : decode code 253 = .ok (.iaload, 1) := by decide +kernel
theorem d_Law_law_254 : decode code 254 = .ok (.aload_n 0, 1) := by decide +kernel
theorem d_Law_law_255 : decode code 255 = .ok (.iload_n 3, 1) := by decide +kernel
theorem d_Law_law_256 : decode code 256 = .ok (.iconst 4, 1) := by decide +kernel
theorem d_Law_law_257 : decode code 257 = .ok (.iadd, 1) := by decide +kernel
theorem d_Law_law_258 : decode code 258 = .ok (.iaload, 1) := by decide +kernel
theorem d_Law_law_259 : decode code 259 = .ok (.invokevirtual 35, 3) := by decide +kernel
theorem d_Law_law_262 : decode code 262 = .ok (.if_icmp .eq 243, 3) := by decide +kernel
theorem d_Law_law_265 : decode code 265 = .ok (.iconst 0, 1) := by decide +kernel
theorem d_Law_law_266 : decode code 266 = .ok (.ireturn, 1) := by decide +kernel
theorem d_Law_law_267 : decode code 267 = .ok (.aload_n 1, 1) := by decide +kernel
theorem d_Law_law_268 : decode code 268 = .ok (.invokevirtual 36, 3) := by decide +kernel
theorem d_Law_law_271 : decode code 271 = .ok (.aload_n 2, 1) := by decide +kernel
theorem d_Law_law_272 : decode code 272 = .ok (.invokevirtual 40, 3) := by decide +kernel
theorem d_Law_law_275 : decode code 275 = .ok (.if_icmp .eq 230, 3) := by decide +kernel
theorem d_Law_law_278 : decode code 278 = .ok (.iconst 0, 1) := by decide +kernel
theorem d_Law_law_279 : decode code 279 = .ok (.ireturn, 1) := by decide +kernel
theorem d_Law_law_280 : decode code 280 = .ok (.aload_n 1, 1) := by decide +kernel
theorem d_Law_law_281 : decode code 281 = .ok (.aload_n 0, 1) := by decide +kernel
theorem d_Law_law_282 : decode code 282 = .ok (.iload_n 3, 1) := by decide +kernel
theorem d_Law_law_283 : decode code 283 = .ok (.iconst 1, 1) := by decide +kernel
theorem d_Law_law_284 : decode code 284 = .ok (.iadd, 1) := by decide +kernel
theorem d_Law_law_285 : decode code 285 = .ok (.iaload, 1) := by decide +kernel
theorem d_Law_law_286 : decode code 286 = .ok (.invokevirtual 41, 3) := by decide +kernel
theorem d_Law_law_289 : decode code 289 = .ok (.aload_n 2, 1) := by decide +kernel
theorem d_Law_law_290 : decode code 290 = .ok (.aload_n 0, 1) := by decide +kernel
theorem d_Law_law_291 : decode code 291 = .ok (.iload_n 3, 1) := by decide +kernel
theorem d_Law_law_292 : decode code 292 = .ok (.iconst 1, 1) := by decide +kernel
theorem d_Law_law_293 : decode code 293 = .ok (.iadd, 1) := by decide +kernel
theorem d_Law_law_294 : decode code 294 = .ok (.iaload, 1) := by decide +kernel
theorem d_Law_law_295 : decode code 295 = .ok (.invokevirtual 45, 3) := by decide +kernel
theorem d_Law_law_298 : decode code 298 = .ok (.if_icmp .eq 207, 3) := by decide +kernel
theorem d_Law_law_301 : decode code 301 = .ok (.iconst 0, 1) := by decide +kernel
theorem d_Law_law_302 : decode code 302 = .ok (.ireturn, 1) := by decide +kernel
theorem d_Law_law_303 : decode code 303 = .ok (.aload_n 1, 1) := by decide +kernel
theorem d_Law_law_304 : decode code 304 = .ok (.aload_n 0, 1) := by decide +kernel
theorem d_Law_law_305 : decode code 305 = .ok (.iload_n 3, 1) := by decide +kernel
theorem d_Law_law_306 : decode code 306 = .ok (.iconst 1, 1) := by decide +kernel
theorem d_Law_law_307 : decode code 307 = .ok (.iadd, 1) := by decide +kernel
theorem d_Law_law_308 : decode code 308 = .ok (.iaload, 1) := by decide +kernel
theorem d_Law_law_309 : decode code 309 = .ok (.invokevirtual 46, 3) := by decide +kernel
theorem d_Law_law_312 : decode code 312 = .ok (.aload_n 2, 1) := by decide +kernel
theorem d_Law_law_313 : decode code 313 = .ok (.aload_n 0, 1) := by decide +kernel
theorem d_Law_law_314 : decode code 314 = .ok (.iload_n 3, 1) := by decide +kernel
theorem d_Law_law_315 : decode code 315 = .ok (.iconst 1, 1) := by decide +kernel
theorem d_Law_law_316 : decode code 316 = .ok (.iadd, 1) := by decide +kernel
theorem d_Law_law_317 : decode code 317 = .ok (.iaload, 1) := by decide +kernel
theorem d_Law_law_318 : decode code 318 = .ok (.invokevirtual 49, 3) := by decide +kernel
theorem d_Law_law_321 : decode code 321 = .ok (.if_icmp .eq 184, 3) := by decide +kernel
theorem d_Law_law_324 : decode code 324 = .ok (.iconst 0, 1) := by decide +kernel
theorem d_Law_law_325 : decode code 325 = .ok (.ireturn, 1) := by decide +kernel
theorem d_Law_law_326 : decode code 326 = .ok (.aload_n 1, 1) := by decide +kernel
theorem d_Law_law_327 : decode code 327 = .ok (.aload_n 0, 1) := by decide +kernel
theorem d_Law_law_328 : decode code 328 = .ok (.iload_n 3, 1) := by decide +kernel
theorem d_Law_law_329 : decode code 329 = .ok (.iconst 1, 1) := by decide +kernel
theorem d_Law_law_330 : decode code 330 = .ok (.iadd, 1) := by decide +kernel
theorem d_Law_law_331 : decode code 331 = .ok (.iaload, 1) := by decide +kernel
theorem d_Law_law_332 : decode code 332 = .ok (.aload_n 0, 1) := by decide +kernel
theorem d_Law_law_333 : decode code 333 = .ok (.iload_n 3, 1) := by decide +kernel
theorem d_Law_law_334 : decode code 334 = .ok (.iconst 2, 1) := by decide +kernel
theorem d_Law_law_335 : decode code 335 = .ok (.iadd, 1) := by decide +kernel
theorem d_Law_law_336 : decode code 336 = .ok (.iaload, 1) := by decide +kernel
theorem d_Law_law_337 : decode code 337 = .ok (.invokevirtual 50, 3) := by decide +kernel
theorem d_Law_law_340 : decode code 340 = .ok (.aload_n 2, 1) := by decide +kernel
theorem d_Law_law_341 : decode code 341 = .ok (.aload_n 0, 1) := by decide +kernel
theorem d_Law_law_342 : decode code 342 = .ok (.iload_n 3, 1) := by decide +kernel
theorem d_Law_law_343 : decode code 343 = .ok (.iconst 1, 1) := by decide +kernel
theorem d_Law_law_344 : decode code 344 = .ok (.iadd, 1) := by decide +kernel
theorem d_Law_law_345 : decode code 345 = .ok (.iaload, 1) := by decide +kernel
theorem d_Law_law_346 : decode code 346 = .ok (.aload_n 0, 1) := by decide +kernel
theorem d_Law_law_347 : decode code 347 = .ok (.iload_n 3, 1) := by decide +kernel
theorem d_Law_law_348 : decode code 348 = .ok (.iconst 2, 1) := by decide +kernel
theorem d_Law_law_349 : decode code 349 = .ok (.iadd, 1) := by decide +kernel
theorem d_Law_law_350 : decode code 350 = .ok (.iaload, 1) := by decide +kernel
theorem d_Law_law_351 : decode code 351 = .ok (.invokevirtual 54, 3) := by decide +kernel
theorem d_Law_law_354 : decode code 354 = .ok (.lcmp, 1) := by decide +kernel
theorem d_Law_law_355 : decode code 355 = .ok (.ifCond .eq 150, 3) := by decide +kernel
theorem d_Law_law_358 : decode code 358 = .ok (.iconst 0, 1) := by decide +kernel
theorem d_Law_law_359 : decode code 359 = .ok (.ireturn, 1) := by decide +kernel
theorem d_Law_law_360 : decode code 360 = .ok (.aload_n 1, 1) := by decide +kernel
theorem d_Law_law_361 : decode code 361 = .ok (.aload_n 0, 1) := by decide +kernel
theorem d_Law_law_362 : decode code 362 = .ok (.iload_n 3, 1) := by decide +kernel
theorem d_Law_law_363 : decode code 363 = .ok (.iconst 1, 1) := by decide +kernel
theorem d_Law_law_364 : decode code 364 = .ok (.iadd, 1) := by decide +kernel
theorem d_Law_law_365 : decode code 365 = .ok (.iaload, 1) := by decide +kernel
theorem d_Law_law_366 : decode code 366 = .ok (.invokevirtual 55, 3) := by decide +kernel
theorem d_Law_law_369 : decode code 369 = .ok (.aload_n 2, 1) := by decide +kernel
theorem d_Law_law_370 : decode code 370 = .ok (.aload_n 0, 1) := by decide +kernel
theorem d_Law_law_371 : decode code 371 = .ok (.iload_n 3, 1) := by decide +kernel
theorem d_Law_law_372 : decode code 372 = .ok (.iconst 1, 1) := by decide +kernel
theorem d_Law_law_373 : decode code 373 = .ok (.iadd, 1) := by decide +kernel
theorem d_Law_law_374 : decode code 374 = .ok (.iaload, 1) := by decide +kernel
theorem d_Law_law_375 : decode code 375 = .ok (.invokevirtual 58, 3) := by decide +kernel
theorem d_Law_law_378 : decode code 378 = .ok (.if_icmp .eq 127, 3) := by decide +kernel
theorem d_Law_law_381 : decode code 381 = .ok (.iconst 0, 1) := by decide +kernel
theorem d_Law_law_382 : decode code 382 = .ok (.ireturn, 1) := by decide +kernel
theorem d_Law_law_383 : decode code 383 = .ok (.aload_n 1, 1) := by decide +kernel
theorem d_Law_law_384 : decode code 384 = .ok (.aload_n 0, 1) := by decide +kernel
theorem d_Law_law_385 : decode code 385 = .ok (.iload_n 3, 1) := by decide +kernel
theorem d_Law_law_386 : decode code 386 = .ok (.iconst 1, 1) := by decide +kernel
theorem d_Law_law_387 : decode code 387 = .ok (.iadd, 1) := by decide +kernel
theorem d_Law_law_388 : decode code 388 = .ok (.iaload, 1) := by decide +kernel
theorem d_Law_law_389 : decode code 389 = .ok (.aload_n 0, 1) := by decide +kernel
theorem d_Law_law_390 : decode code 390 = .ok (.iload_n 3, 1) := by decide +kernel
theorem d_Law_law_391 : decode code 391 = .ok (.iconst 2, 1) := by decide +kernel
theorem d_Law_law_392 : decode code 392 = .ok (.iadd, 1) := by decide +kernel
theorem d_Law_law_393 : decode code 393 = .ok (.iaload, 1) := by decide +kernel
theorem d_Law_law_394 : decode code 394 = .ok (.invokevirtual 59, 3) := by decide +kernel
theorem d_Law_law_397 : decode code 397 = .ok (.aload_n 2, 1) := by decide +kernel
theorem d_Law_law_398 : decode code 398 = .ok (.aload_n 0, 1) := by decide +kernel
theorem d_Law_law_399 : decode code 399 = .ok (.iload_n 3, 1) := by decide +kernel
theorem d_Law_law_400 : decode code 400 = .ok (.iconst 1, 1) := by decide +kernel
theorem d_Law_law_401 : decode code 401 = .ok (.iadd, 1) := by decide +kernel
theorem d_Law_law_402 : decode code 402 = .ok (.iaload, 1) := by decide +kernel
theorem d_Law_law_403 : decode code 403 = .ok (.aload_n 0, 1) := by decide +kernel
theorem d_Law_law_404 : decode code 404 = .ok (.iload_n 3, 1) := by decide +kernel
theorem d_Law_law_405 : decode code 405 = .ok (.iconst 2, 1) := by decide +kernel
theorem d_Law_law_406 : decode code 406 = .ok (.iadd, 1) := by decide +kernel
theorem d_Law_law_407 : decode code 407 = .ok (.iaload, 1) := by decide +kernel
theorem d_Law_law_408 : decode code 408 = .ok (.invokevirtual 63, 3) := by decide +kernel
theorem d_Law_law_411 : decode code 411 = .ok (.if_icmp .eq 94, 3) := by decide +kernel
theorem d_Law_law_414 : decode code 414 = .ok (.iconst 0, 1) := by decide +kernel
theorem d_Law_law_415 : decode code 415 = .ok (.ireturn, 1) := by decide +kernel
theorem d_Law_law_416 : decode code 416 = .ok (.aload_n 1, 1) := by decide +kernel
theorem d_Law_law_417 : decode code 417 = .ok (.aload_n 0, 1) := by decide +kernel
theorem d_Law_law_418 : decode code 418 = .ok (.iload_n 3, 1) := by decide +kernel
theorem d_Law_law_419 : decode code 419 = .ok (.iconst 1, 1) := by decide +kernel
theorem d_Law_law_420 : decode code 420 = .ok (.iadd, 1) := by decide +kernel
theorem d_Law_law_421 : decode code 421 = .ok (.iaload, 1) := by decide +kernel
theorem d_Law_law_422 : decode code 422 = .ok (.aload_n 0, 1) := by decide +kernel
theorem d_Law_law_423 : decode code 423 = .ok (.iload_n 3, 1) := by decide +kernel
theorem d_Law_law_424 : decode code 424 = .ok (.iconst 2, 1) := by decide +kernel
theorem d_Law_law_425 : decode code 425 = .ok (.iadd, 1) := by decide +kernel
theorem d_Law_law_426 : decode code 426 = .ok (.iaload, 1) := by decide +kernel
theorem d_Law_law_427 : decode code 427 = .ok (.invokevirtual 64, 3) := by decide +kernel
theorem d_Law_law_430 : decode code 430 = .ok (.aload_n 2, 1) := by decide +kernel
theorem d_Law_law_431 : decode code 431 = .ok (.aload_n 0, 1) := by decide +kernel
theorem d_Law_law_432 : decode code 432 = .ok (.iload_n 3, 1) := by decide +kernel
theorem d_Law_law_433 : decode code 433 = .ok (.iconst 1, 1) := by decide +kernel
theorem d_Law_law_434 : decode code 434 = .ok (.iadd, 1) := by decide +kernel
theorem d_Law_law_435 : decode code 435 = .ok (.iaload, 1) := by decide +kernel
theorem d_Law_law_436 : decode code 436 = .ok (.aload_n 0, 1) := by decide +kernel
theorem d_Law_law_437 : decode code 437 = .ok (.iload_n 3, 1) := by decide +kernel
theorem d_Law_law_438 : decode code 438 = .ok (.iconst 2, 1) := by decide +kernel
theorem d_Law_law_439 : decode code 439 = .ok (.iadd, 1) := by decide +kernel
theorem d_Law_law_440 : decode code 440 = .ok (.iaload, 1) := by decide +kernel
theorem d_Law_law_441 : decode code 441 = .ok (.invokevirtual 67, 3) := by decide +kernel
theorem d_Law_law_444 : decode code 444 = .ok (.if_icmp .eq 61, 3) := by decide +kernel
theorem d_Law_law_447 : decode code 447 = .ok (.iconst 0, 1) := by decide +kernel
theorem d_Law_law_448 : decode code 448 = .ok (.ireturn, 1) := by decide +kernel
theorem d_Law_law_449 : decode code 449 = .ok (.aload_n 1, 1) := by decide +kernel
theorem d_Law_law_450 : decode code 450 = .ok (.aload_n 0, 1) := by decide +kernel
theorem d_Law_law_451 : decode code 451 = .ok (.iload_n 3, 1) := by decide +kernel
theorem d_Law_law_452 : decode code 452 = .ok (.iconst 1, 1) := by decide +kernel
theorem d_Law_law_453 : decode code 453 = .ok (.iadd, 1) := by decide +kernel
theorem d_Law_law_454 : decode code 454 = .ok (.iaload, 1) := by decide +kernel
theorem d_Law_law_455 : decode code 455 = .ok (.aload_n 0, 1) := by decide +kernel
theorem d_Law_law_456 : decode code 456 = .ok (.iload_n 3, 1) := by decide +kernel
theorem d_Law_law_457 : decode code 457 = .ok (.iconst 2, 1) := by decide +kernel
theorem d_Law_law_458 : decode code 458 = .ok (.iadd, 1) := by decide +kernel
theorem d_Law_law_459 : decode code 459 = .ok (.iaload, 1) := by decide +kernel
theorem d_Law_law_460 : decode code 460 = .ok (.invokevirtual 68, 3) := by decide +kernel
theorem d_Law_law_463 : decode code 463 = .ok (.aload_n 2, 1) := by decide +kernel
theorem d_Law_law_464 : decode code 464 = .ok (.aload_n 0, 1) := by decide +kernel
theorem d_Law_law_465 : decode code 465 = .ok (.iload_n 3, 1) := by decide +kernel
theorem d_Law_law_466 : decode code 466 = .ok (.iconst 1, 1) := by decide +kernel
theorem d_Law_law_467 : decode code 467 = .ok (.iadd, 1) := by decide +kernel
theorem d_Law_law_468 : decode code 468 = .ok (.iaload, 1) := by decide +kernel
theorem d_Law_law_469 : decode code 469 = .ok (.aload_n 0, 1) := by decide +kernel
theorem d_Law_law_470 : decode code 470 = .ok (.iload_n 3, 1) := by decide +kernel
theorem d_Law_law_471 : decode code 471 = .ok (.iconst 2, 1) := by decide +kernel
theorem d_Law_law_472 : decode code 472 = .ok (.iadd, 1) := by decide +kernel
theorem d_Law_law_473 : decode code 473 = .ok (.iaload, 1) := by decide +kernel
theorem d_Law_law_474 : decode code 474 = .ok (.invokevirtual 71, 3) := by decide +kernel
theorem d_Law_law_477 : decode code 477 = .ok (.if_icmp .eq 28, 3) := by decide +kernel
theorem d_Law_law_480 : decode code 480 = .ok (.iconst 0, 1) := by decide +kernel
theorem d_Law_law_481 : decode code 481 = .ok (.ireturn, 1) := by decide +kernel
theorem d_Law_law_482 : decode code 482 = .ok (.aload_n 1, 1) := by decide +kernel
theorem d_Law_law_483 : decode code 483 = .ok (.aload_n 0, 1) := by decide +kernel
theorem d_Law_law_484 : decode code 484 = .ok (.iload_n 3, 1) := by decide +kernel
theorem d_Law_law_485 : decode code 485 = .ok (.iconst 1, 1) := by decide +kernel
theorem d_Law_law_486 : decode code 486 = .ok (.iadd, 1) := by decide +kernel
theorem d_Law_law_487 : decode code 487 = .ok (.iaload, 1) := by decide +kernel
theorem d_Law_law_488 : decode code 488 = .ok (.invokevirtual 72, 3) := by decide +kernel
theorem d_Law_law_491 : decode code 491 = .ok (.aload_n 2, 1) := by decide +kernel
theorem d_Law_law_492 : decode code 492 = .ok (.aload_n 0, 1) := by decide +kernel
theorem d_Law_law_493 : decode code 493 = .ok (.iload_n 3, 1) := by decide +kernel
theorem d_Law_law_494 : decode code 494 = .ok (.iconst 1, 1) := by decide +kernel
theorem d_Law_law_495 : decode code 495 = .ok (.iadd, 1) := by decide +kernel
theorem d_Law_law_496 : decode code 496 = .ok (.iaload, 1) := by decide +kernel
theorem d_Law_law_497 : decode code 497 = .ok (.invokevirtual 75, 3) := by decide +kernel
theorem d_Law_law_500 : decode code 500 = .ok (.if_icmp .eq 5, 3) := by decide +kernel
theorem d_Law_law_503 : decode code 503 = .ok (.iconst 0, 1) := by decide +kernel
theorem d_Law_law_504 : decode code 504 = .ok (.ireturn, 1) := by decide +kernel
theorem d_Law_law_505 : decode code 505 = .ok (.iinc 3 5, 3) := by decide +kernel
theorem d_Law_law_508 : decode code 508 = .ok (.goto (-490), 3) := by decide +kernel
theorem d_Law_law_511 : decode code 511 = .ok (.iconst 1, 1) := by decide +kernel
theorem d_Law_law_512 : decode code 512 = .ok (.ireturn, 1) := by decide +kernel
end
section
/-! My own rows over the kit: one list of words for all methods, calls by contract, joins, loops. -/
theorem big_good {cy : Cond} (h : cy ∈ BIG) : GoodIn BIG (cy :: BIG) := by
  intro w hw
  have hw' : w ∈ BIG := by
    rcases List.mem_cons.mp hw with h1 | h1
    · rw [h1]; exact h
    · exact h1
  exact ⟨hw', good_of_word (List.mem_filter.mp hw').2⟩
def rf_isNest : Cond → Bool
  | .fieldLinkNest .. => true
  | .methodLinkNest .. => true
  | _ => false
def rf_N0 (U : State) : Prop := ∀ w ∈ lw_tbl, rf_isNest w = true → va_Nw w U
theorem rf_N0.warm {s U : State} (hW : s.WarmedH U.vm) (h : rf_N0 s) : rf_N0 U := by
  intro w hw hn
  cases w with
  | fieldLinkNest a i b n d k => exact va_Nw.warmF hW (h _ hw hn)
  | methodLinkNest a i x k => exact va_Nw.warmM hW (h _ hw hn)
  | _ => exact absurd hn (by simp [rf_isNest])
theorem rf_N0.same {u U : State} (hv : u.vm = U.vm) (h : rf_N0 u) : rf_N0 U := by
  intro w hw hn
  cases w with
  | fieldLinkNest a i b n d k => exact va_Nw.same rfl hv (h _ hw hn)
  | methodLinkNest a i x k => exact va_Nw.same rfl hv (h _ hw hn)
  | _ => exact absurd hn (by simp [rf_isNest])
theorem rf_N0.of {s : State} {args : Array Value} (h : ∀ w ∈ lw_tbl, w.before args s = true) : rf_N0 s := by
  intro w hw hn
  cases w with
  | fieldLinkNest a i b n d k => exact va_Nw.of rfl (h _ hw)
  | methodLinkNest a i x k => exact va_Nw.of rfl (h _ hw)
  | _ => exact absurd hn (by simp [rf_isNest])
def rf_N (U : State) : Prop := rf_N0 U ∧ va_AO "RayField$Wall" U ∧ va_AO "RayField$Meeting" U
theorem rf_N.warm {s U : State} (hW : s.WarmedH U.vm) (h : rf_N s) : rf_N U := ⟨h.1.warm hW, h.2.1.moved hW.alike, h.2.2.moved hW.alike⟩
theorem rf_N.calling {U : State} {g : JFrame} {mk : MethodId} {a : Array Value} (h : rf_N U) : rf_N (U.calling g mk a) := ⟨rf_N0.same (u := U) (U := U.calling g mk a) rfl h.1, va_AO.moved (u := U) (U := U.calling g mk a) (Vm.Alike.refl U.vm) h.2.1, va_AO.moved (u := U) (U := U.calling g mk a) (Vm.Alike.refl U.vm) h.2.2⟩
def rf_E (D : va_G) (tys : List (ClassId × FieldType)) (U : State) : Prop := rf_N U ∧ va_K D vwCl tys U
theorem rf_E.warm {D : va_G} {tys : List (ClassId × FieldType)} {s U : State} (hW : s.WarmedH U.vm) (h : rf_E D tys s) : rf_E D tys U := ⟨h.1.warm hW, va_K.moved hW.alike h.2⟩
theorem rf_E.sub {D : va_G} {tys tys' : List (ClassId × FieldType)} {s : State} (h : rf_E D tys s) (is : List Nat) (hs : is.filterMap (fun i => tys[i]?) = tys') : rf_E D tys' s := ⟨h.1, h.2.sub is hs⟩
def rf_Pc (D : va_G) (tys : List (ClassId × FieldType)) (av : List Value) (PH : Heap → Prop) : Array Value → State → Prop := va_Pc av (fun U => rf_E D tys U ∧ PH U.heap)
theorem rf_blind {D : va_G} {tys : List (ClassId × FieldType)} {av : List Value} {PH : Heap → Prop} : FrameBlind (rf_Pc D tys av PH) := by
  intro a U g mk q
  obtain ⟨q0, ⟨qN, qK⟩, qP⟩ := q
  exact ⟨q0, ⟨qN.calling, va_K.moved (u := U) (U := U.calling g mk a) (Vm.Alike.refl U.vm) qK⟩, qP⟩
theorem rf_preS {D : va_G} {tys : List (ClassId × FieldType)} {As : List Value} {PH : Heap → Prop} {s : State} {H : Heap} (hE : rf_E D tys s) (hH : PH H) : PreS s H (rf_Pc D tys As PH) As :=
  ⟨rf_blind, fun U hU hW => ⟨rfl, hE.warm hW, by rw [hU]; exact hH⟩⟩
theorem rf_preV {D : va_G} {tys : List (ClassId × FieldType)} {As : List Value} {PH : Heap → Prop} {s : State} {H : Heap} {C : String} {b : Addr} (hE : rf_E D tys s) (hr : ∃ cellB : Cell, H[b]? = some cellB ∧ cellB.vm.isStatics = false ∧ s.vm.findClass C = some cellB.cls) (hH : PH H) : PreV s H C b (rf_Pc D tys (.ref b :: As) PH) As :=
  ⟨rf_blind, hr, fun U hU hW => ⟨rfl, hE.warm hW, by rw [hU]; exact hH⟩⟩
/-- what a call's instruction links: static, static of a nest mate, virtual, constructor, constructor of a nest mate -/
def rf_okY (y : MethodName) (n : Nat) : Prop := y.cls ≠ "java/lang/invoke/MethodHandle" ∧ y.cls ≠ "java/lang/invoke/VarHandle" ∧ (parseMethodDescriptor y.desc).map (fun d => d.parameters.length) = some n
def rf_LS (own : String) (idx : Nat) (y : MethodName) (b : ByteArray) (mL : Nat) (ret : Option FieldType) (n : Nat) : Prop := Cond.code y b mL ret ∈ BIG ∧ Cond.methodLink own idx y ∈ BIG ∧ Cond.static y ∈ BIG ∧ Cond.initialized y.cls ∈ BIG ∧ rf_okY y n
def rf_LSN (own : String) (idx : Nat) (host : String) (y : MethodName) (b : ByteArray) (mL : Nat) (ret : Option FieldType) (n : Nat) : Prop := Cond.code y b mL ret ∈ BIG ∧ Cond.methodLinkNest own idx y host ∈ lw_tbl ∧ Cond.static y ∈ BIG ∧ Cond.initialized y.cls ∈ BIG ∧ rf_okY y n
def rf_LV (own : String) (idx : Nat) (y : MethodName) (b : ByteArray) (mL : Nat) (ret : Option FieldType) (n : Nat) : Prop := Cond.code y b mL ret ∈ BIG ∧ Cond.methodLink own idx y ∈ BIG ∧ Cond.instanceMethod y ∈ BIG ∧ Cond.selects y.cls y y ∈ BIG ∧ Cond.initialized y.cls ∈ BIG ∧ rf_okY y n
def rf_LI (own : String) (idx : Nat) (y : MethodName) (b : ByteArray) (mL n : Nat) : Prop := Cond.code y b mL none ∈ BIG ∧ Cond.methodLink own idx y ∈ BIG ∧ Cond.instanceMethod y ∈ BIG ∧ Cond.initialized y.cls ∈ BIG ∧ y.name = "<init>" ∧ rf_okY y n
def rf_LIN (own : String) (idx : Nat) (host : String) (y : MethodName) (b : ByteArray) (mL n : Nat) : Prop := Cond.code y b mL none ∈ BIG ∧ Cond.methodLinkNest own idx y host ∈ lw_tbl ∧ Cond.instanceMethod y ∈ BIG ∧ Cond.initialized y.cls ∈ BIG ∧ y.name = "<init>" ∧ rf_okY y n
section RfRun
variable {p : Program} {l : Launch} {e : Env} {R : Room} {s : State} {m : MethodId} {args : Array Value} {below : List Frame} {meth : Method} {c : Code} {H : Heap} {locs : List Loc} {cells slots : Nat} {Q : State → Prop} {cc b : ByteArray} {pc nL mL n idx mc ms : Nat} {ls : Array Slot} {st0 As rest : List Value} {own host : String} {y : MethodName} {ret : Option FieldType} {rm : Room} {D : va_G} {tys : List (ClassId × FieldType)} {PH : Heap → Prop} {Qc : Array Value → State → Outcome → State → Prop} {free : Addr → Prop} {o : Addr}
theorem rf_runS (S : CallFix p m c cc nL s args BIG own) (L : rf_LS own idx y b mL ret n) (hM : Met l y (.code y b mL ret :: BIG) rm (rf_Pc D tys As PH) Qc mc ms free) (hE : rf_E D tys s) (hH : PH H)
    (hr : rm.cells = mc ∧ rm.slots = ms ∧ rm.frames + 1 ≤ R.frames ∧ 8 + (mL + 11) + rm.locals ≤ R.locals) (hn : As.length = n) (hsz : ls.size = nL) (hst : st0 = As.reverse ++ rest) (hW : (rest.map fun v => v.category).sum ≤ 8) (hdg : decode cc pc = .ok (.invokestatic idx, 3)) (hf : cells + mc ≤ R.cells ∧ slots + ms ≤ R.slots) :
    va_Run p l e R s m args below meth c H locs cells slots mc ms (F0 m pc ls st0) rest (Qc As.toArray) free :=
  va_runS S hM ⟨callB_of n S.2.2.2.2 (big_good L.1) rfl hr.1 hr.2.1 (S.2.2.2.2 _ L.2.2.2.1) (S.2.2.2.2 _ L.2.1) L.2.2.2.2 ⟨hr.2.2.1, hr.2.2.2⟩, S.2.2.2.2 _ L.2.2.1⟩ (rf_preS hE hH) rfl hn hsz hst (lv_room hW) hdg hf
theorem rf_runSN (S : CallFix p m c cc nL s args BIG own) (L : rf_LSN own idx host y b mL ret n) (hM : Met l y (.code y b mL ret :: BIG) rm (rf_Pc D tys As PH) Qc mc ms free) (hE : rf_E D tys s) (hH : PH H)
    (hr : rm.cells = mc ∧ rm.slots = ms ∧ rm.frames + 1 ≤ R.frames ∧ 8 + (mL + 11) + rm.locals ≤ R.locals) (hn : As.length = n) (hsz : ls.size = nL) (hst : st0 = As.reverse ++ rest) (hW : (rest.map fun v => v.category).sum ≤ 8) (hdg : decode cc pc = .ok (.invokestatic idx, 3)) (hf : cells + mc ≤ R.cells ∧ slots + ms ≤ R.slots) :
    va_Run p l e R s m args below meth c H locs cells slots mc ms (F0 m pc ls st0) rest (Qc As.toArray) free :=
  va_runSN S hM ⟨va_cnB n S.2.2.2.2 (big_good L.1) rfl hr.1 hr.2.1 (hE.1.1 _ L.2.1 rfl) (S.2.2.2.2 _ L.2.2.2.1) L.2.2.2.2 ⟨hr.2.2.1, hr.2.2.2⟩, S.2.2.2.2 _ L.2.2.1, trivial⟩ (rf_preS hE hH) rfl hn hsz hst (lv_room hW) hdg hf
theorem rf_runV (S : CallFix p m c cc nL s args BIG own) (L : rf_LV own idx y b mL ret n) (hM : Met l y (.code y b mL ret :: BIG) rm (rf_Pc D tys (.ref o :: As) PH) Qc mc ms free) (hE : rf_E D tys s) (ho : ∃ cellB : Cell, H[o]? = some cellB ∧ cellB.vm.isStatics = false ∧ s.vm.findClass y.cls = some cellB.cls) (hH : PH H)
    (hr : rm.cells = mc ∧ rm.slots = ms ∧ rm.frames + 1 ≤ R.frames ∧ 8 + (mL + 11) + rm.locals ≤ R.locals) (hn : As.length = n) (hsz : ls.size = nL) (hst : st0 = As.reverse ++ .ref o :: rest) (hW : (rest.map fun v => v.category).sum ≤ 8) (hdg : decode cc pc = .ok (.invokevirtual idx, 3)) (hf : cells + mc ≤ R.cells ∧ slots + ms ≤ R.slots) :
    va_Run p l e R s m args below meth c H locs cells slots mc ms (F0 m pc ls st0) rest (Qc (Value.ref o :: As).toArray) free :=
  va_runV S hM ⟨callB_of n S.2.2.2.2 (big_good L.1) rfl hr.1 hr.2.1 (S.2.2.2.2 _ L.2.2.2.2.1) (S.2.2.2.2 _ L.2.1) L.2.2.2.2.2 ⟨hr.2.2.1, hr.2.2.2⟩, S.2.2.2.2 _ L.2.2.1, S.2.2.2.2 _ L.2.2.2.1⟩ (rf_preV hE ho hH) rfl hn hsz hst (lv_room hW) hdg hf
theorem rf_runI (S : CallFix p m c cc nL s args BIG own) (L : rf_LI own idx y b mL n) (hM : Met l y (.code y b mL none :: BIG) rm (rf_Pc D tys (.ref o :: As) PH) Qc mc ms free) (hE : rf_E D tys s) (hH : PH H)
    (hr : rm.cells = mc ∧ rm.slots = ms ∧ rm.frames + 1 ≤ R.frames ∧ 8 + (mL + 11) + rm.locals ≤ R.locals) (hn : As.length = n) (hsz : ls.size = nL) (hst : st0 = As.reverse ++ .ref o :: rest) (hW : (rest.map fun v => v.category).sum ≤ 8) (hdg : decode cc pc = .ok (.invokespecial idx, 3)) (hf : cells + mc ≤ R.cells ∧ slots + ms ≤ R.slots) :
    va_Run p l e R s m args below meth c H locs cells slots mc ms (F0 m pc ls st0) rest (Qc (Value.ref o :: As).toArray) free :=
  va_runI S hM ⟨callB_of n S.2.2.2.2 (big_good L.1) rfl hr.1 hr.2.1 (S.2.2.2.2 _ L.2.2.2.1) (S.2.2.2.2 _ L.2.1) L.2.2.2.2.2 ⟨hr.2.2.1, hr.2.2.2⟩, L.2.2.2.2.1, S.2.2.2.2 _ L.2.2.1⟩ (rf_preS hE hH) rfl hn hsz hst (lv_room hW) hdg hf
theorem rf_runIN (S : CallFix p m c cc nL s args BIG own) (L : rf_LIN own idx host y b mL n) (hM : Met l y (.code y b mL none :: BIG) rm (rf_Pc D tys (.ref o :: As) PH) Qc mc ms free) (hE : rf_E D tys s) (hH : PH H)
    (hr : rm.cells = mc ∧ rm.slots = ms ∧ rm.frames + 1 ≤ R.frames ∧ 8 + (mL + 11) + rm.locals ≤ R.locals) (hn : As.length = n) (hsz : ls.size = nL) (hst : st0 = As.reverse ++ .ref o :: rest) (hW : (rest.map fun v => v.category).sum ≤ 8) (hdg : decode cc pc = .ok (.invokespecial idx, 3)) (hf : cells + mc ≤ R.cells ∧ slots + ms ≤ R.slots) :
    va_Run p l e R s m args below meth c H locs cells slots mc ms (F0 m pc ls st0) rest (Qc (Value.ref o :: As).toArray) free :=
  va_runIN S hM ⟨va_cnB n S.2.2.2.2 (big_good L.1) rfl hr.1 hr.2.1 (hE.1.1 _ L.2.1 rfl) (S.2.2.2.2 _ L.2.2.2.1) L.2.2.2.2.2 ⟨hr.2.2.1, hr.2.2.2⟩, L.2.2.2.2.1, S.2.2.2.2 _ L.2.2.1⟩ (rf_preS hE hH) rfl hn hsz hst (lv_room hW) hdg hf
/-- a reference that may be null, on the stack -/
theorem rf_topq {r : Option Nat} (k0 : r = none → W p l e R s m args below meth c H locs cells slots Q (F0 m pc ls (.null :: rest))) (k1 : ∀ q : Nat, r = some q → W p l e R s m args below meth c H locs cells slots Q (F0 m pc ls (.ref q :: rest))) : W p l e R s m args below meth c H locs cells slots Q (F0 m pc ls (va_rf r :: rest)) := by
  cases r with
  | none => exact k0 rfl
  | some q => exact k1 q rfl
theorem rf_topi {x y : Int32} (h : x = y) (k : W p l e R s m args below meth c H locs cells slots Q (F0 m pc ls (.int y :: rest))) : W p l e R s m args below meth c H locs cells slots Q (F0 m pc ls (.int x :: rest)) := h ▸ k
theorem rf_topl {x y : Int64} (h : x = y) (k : W p l e R s m args below meth c H locs cells slots Q (F0 m pc ls (.long y :: rest))) : W p l e R s m args below meth c H locs cells slots Q (F0 m pc ls (.long x :: rest)) := h ▸ k
/-- the ways that meet at pc2, with a number on the stack, or with none -/
theorem rf_joinI {st : List Value} (pc2 : Nat) (st2 : List Value) (X : Int32 → Prop) (hj : ∀ b : Int32, X b → W p l e R s m args below meth c H locs cells slots Q (F0 m pc2 ls (.int b :: st2))) (k : (∀ b : Int32, X b → W p l e R s m args below meth c H locs cells slots Q (F0 m pc2 ls (.int b :: st2))) → W p l e R s m args below meth c H locs cells slots Q (F0 m pc ls st)) : W p l e R s m args below meth c H locs cells slots Q (F0 m pc ls st) := k hj
theorem rf_joinU {st : List Value} (pc2 : Nat) (st2 : List Value) (X : Prop) (hj : X → W p l e R s m args below meth c H locs cells slots Q (F0 m pc2 ls st2)) (k : (X → W p l e R s m args below meth c H locs cells slots Q (F0 m pc2 ls st2)) → W p l e R s m args below meth c H locs cells slots Q (F0 m pc ls st)) : W p l e R s m args below meth c H locs cells slots Q (F0 m pc ls st) := k hj
/-- a loop whose head is at pc0: i goes up to N; the invariant speaks of the locals, the heap and the room -/
theorem rf_loop (pc0 N : Nat) (I : Nat → Array Slot → Heap → List Loc → Nat → Nat → Prop)
    (last : ∀ (ls : Array Slot) (H : Heap) (locs : List Loc) (k1 k2 : Nat), I N ls H locs k1 k2 → W p l e R s m args below meth c H locs k1 k2 Q (F0 m pc0 ls []))
    (step : ∀ (i : Nat) (ls : Array Slot) (H : Heap) (locs : List Loc) (k1 k2 : Nat), i < N → I i ls H locs k1 k2 → (∀ (ls' : Array Slot) (H' : Heap) (locs' : List Loc) (k1' k2' : Nat), I (i + 1) ls' H' locs' k1' k2' → W p l e R s m args below meth c H' locs' k1' k2' Q (F0 m pc0 ls' [])) → W p l e R s m args below meth c H locs k1 k2 Q (F0 m pc0 ls []))
    (i : Nat) (hi : i ≤ N) (h : I i ls H locs cells slots) : W p l e R s m args below meth c H locs cells slots Q (F0 m pc0 ls []) := by
  have key : ∀ (n i : Nat) (ls : Array Slot) (H : Heap) (locs : List Loc) (k1 k2 : Nat), i + n = N → I i ls H locs k1 k2 → W p l e R s m args below meth c H locs k1 k2 Q (F0 m pc0 ls []) := by
    intro n
    induction n with
    | zero => intro i ls H locs k1 k2 hin h; have e : i = N := by omega
              subst e; exact last ls H locs k1 k2 h
    | succ n ih => intro i ls H locs k1 k2 hin h
                   exact step i ls H locs k1 k2 (by omega) h (fun ls' H' locs' k1' k2' h' => ih (i + 1) ls' H' locs' k1' k2' (by omega) h')
  exact key (N - i) i ls H locs cells slots (by omega) h
/-- a loop without a change of the heap -/
theorem rf_loopP (pc0 N : Nat) (I : Nat → Array Slot → Prop)
    (last : ∀ ls : Array Slot, I N ls → W p l e R s m args below meth c H locs cells slots Q (F0 m pc0 ls []))
    (step : ∀ (i : Nat) (ls : Array Slot), i < N → I i ls → (∀ ls' : Array Slot, I (i + 1) ls' → W p l e R s m args below meth c H locs cells slots Q (F0 m pc0 ls' [])) → W p l e R s m args below meth c H locs cells slots Q (F0 m pc0 ls []))
    (i : Nat) (hi : i ≤ N) (h : I i ls) : W p l e R s m args below meth c H locs cells slots Q (F0 m pc0 ls []) := by
  have key : ∀ (n i : Nat) (ls : Array Slot), i + n = N → I i ls → W p l e R s m args below meth c H locs cells slots Q (F0 m pc0 ls []) := by
    intro n
    induction n with
    | zero => intro i ls hin h; have e : i = N := by omega
              subst e; exact last ls h
    | succ n ih => intro i ls hin h
                   exact step i ls (by omega) h (fun ls' h' => ih (i + 1) ls' (by omega) h')
  exact key (N - i) i ls (by omega) h
theorem rf_lcmp_ge (hx : p.tables.exec = Jvm.exec) (hb : c.code = cc) {x y : Int64} {off : Int} {tgt : Nat} (hd : decode cc pc = .ok (.lcmp, 1)) (hd2 : decode cc (pc + 1) = .ok (.ifCond .ge off, 3)) (ht : ((pc + 1 : Nat) : Int) + off = (tgt : Int)) (kt : y ≤ x → W p l e R s m args below meth c H locs cells slots Q (F0 m tgt ls rest)) (kf : ¬ y ≤ x → W p l e R s m args below meth c H locs cells slots Q (F0 m (pc + 1 + 3) ls rest)) : W p l e R s m args below meth c H locs cells slots Q (F0 m pc ls (.long y :: .long x :: rest)) :=
  W.lcmp hx hb hd (lv_if_ge hx hb hd2 ht (fun h => kt ((lg_cmp_ge x y).mp h)) (fun h => kf (fun q => h ((lg_cmp_ge x y).mpr q))))
theorem rf_lcmp_lt (hx : p.tables.exec = Jvm.exec) (hb : c.code = cc) {x y : Int64} {off : Int} {tgt : Nat} (hd : decode cc pc = .ok (.lcmp, 1)) (hd2 : decode cc (pc + 1) = .ok (.ifCond .lt off, 3)) (ht : ((pc + 1 : Nat) : Int) + off = (tgt : Int)) (kt : x < y → W p l e R s m args below meth c H locs cells slots Q (F0 m tgt ls rest)) (kf : ¬ x < y → W p l e R s m args below meth c H locs cells slots Q (F0 m (pc + 1 + 3) ls rest)) : W p l e R s m args below meth c H locs cells slots Q (F0 m pc ls (.long y :: .long x :: rest)) :=
  W.lcmp hx hb hd (lv_if_lt hx hb hd2 ht (fun h => kt ((lg_cmp_lt x y).mp h)) (fun h => kf (fun q => h ((lg_cmp_lt x y).mpr q))))
theorem rf_lcmp_gt (hx : p.tables.exec = Jvm.exec) (hb : c.code = cc) {x y : Int64} {off : Int} {tgt : Nat} (hd : decode cc pc = .ok (.lcmp, 1)) (hd2 : decode cc (pc + 1) = .ok (.ifCond .gt off, 3)) (ht : ((pc + 1 : Nat) : Int) + off = (tgt : Int)) (kt : y < x → W p l e R s m args below meth c H locs cells slots Q (F0 m tgt ls rest)) (kf : ¬ y < x → W p l e R s m args below meth c H locs cells slots Q (F0 m (pc + 1 + 3) ls rest)) : W p l e R s m args below meth c H locs cells slots Q (F0 m pc ls (.long y :: .long x :: rest)) :=
  W.lcmp hx hb hd (lv_if_gt hx hb hd2 ht (fun h => kt ((lg_cmp_gt x y).mp h)) (fun h => kf (fun q => h ((lg_cmp_gt x y).mpr q))))
theorem rf_lcmp_le (hx : p.tables.exec = Jvm.exec) (hb : c.code = cc) {x y : Int64} {off : Int} {tgt : Nat} (hd : decode cc pc = .ok (.lcmp, 1)) (hd2 : decode cc (pc + 1) = .ok (.ifCond .le off, 3)) (ht : ((pc + 1 : Nat) : Int) + off = (tgt : Int)) (kt : x ≤ y → W p l e R s m args below meth c H locs cells slots Q (F0 m tgt ls rest)) (kf : ¬ x ≤ y → W p l e R s m args below meth c H locs cells slots Q (F0 m (pc + 1 + 3) ls rest)) : W p l e R s m args below meth c H locs cells slots Q (F0 m pc ls (.long y :: .long x :: rest)) :=
  W.lcmp hx hb hd (lv_if_le hx hb hd2 ht (fun h => kt ((lg_cmp_le x y).mp h)) (fun h => kf (fun q => h ((lg_cmp_le x y).mpr q))))
theorem rf_lcmp_eq (hx : p.tables.exec = Jvm.exec) (hb : c.code = cc) {x y : Int64} {off : Int} {tgt : Nat} (hd : decode cc pc = .ok (.lcmp, 1)) (hd2 : decode cc (pc + 1) = .ok (.ifCond .eq off, 3)) (ht : ((pc + 1 : Nat) : Int) + off = (tgt : Int)) (kt : x = y → W p l e R s m args below meth c H locs cells slots Q (F0 m tgt ls rest)) (kf : ¬ x = y → W p l e R s m args below meth c H locs cells slots Q (F0 m (pc + 1 + 3) ls rest)) : W p l e R s m args below meth c H locs cells slots Q (F0 m pc ls (.long y :: .long x :: rest)) :=
  W.lcmp hx hb hd (lv_if_eq hx hb hd2 ht (fun h => kt ((lg_cmp_eq x y).mp h)) (fun h => kf (fun q => h ((lg_cmp_eq x y).mpr q))))
theorem rf_lcmp_ne (hx : p.tables.exec = Jvm.exec) (hb : c.code = cc) {x y : Int64} {off : Int} {tgt : Nat} (hd : decode cc pc = .ok (.lcmp, 1)) (hd2 : decode cc (pc + 1) = .ok (.ifCond .ne off, 3)) (ht : ((pc + 1 : Nat) : Int) + off = (tgt : Int)) (kt : ¬ x = y → W p l e R s m args below meth c H locs cells slots Q (F0 m tgt ls rest)) (kf : x = y → W p l e R s m args below meth c H locs cells slots Q (F0 m (pc + 1 + 3) ls rest)) : W p l e R s m args below meth c H locs cells slots Q (F0 m pc ls (.long y :: .long x :: rest)) :=
  W.lcmp hx hb hd (lv_if_ne hx hb hd2 ht (fun h => kt (fun q => h ((lg_cmp_eq x y).mpr q))) (fun h => kf ((lg_cmp_eq x y).mp h)))
end RfRun
section RfArr
variable {p : Program} {l : Launch} {e : Env} {R : Room} {s : State} {m : MethodId} {args : Array Value} {below : List Frame} {meth : Method} {c : Code} {H H0 : Heap} {locs : List Loc} {cells slots : Nat} {Q : State → Prop} {cc : ByteArray} {pc : Nat} {ls : Array Slot} {rest : List Value} {D : va_G} {cl : List vw_C} {tys : List (ClassId × FieldType)} {ws : va_W} {A : Nat → Prop} {a : Nat}
theorem rf_iald (hx : p.tables.exec = Jvm.exec) (hb : c.code = cc) (hK : va_K D cl tys s) (hP : va_P D cl ws H) (q0 t0 : Nat) {cA : ClassId} {n i : Nat} {f : Nat → Int32} (ha : ws[q0]? = some (a, .inl (cA, n, .inl f))) (ht : tys[t0]? = some (cA, .int)) (hi : i < n) (hn : n < 2 ^ 31) (hdg : decode cc pc = .ok (.iaload, 1)) (kk : W p l e R s m args below meth c H locs cells slots Q (F0 m (pc + 1) ls (.int (f i) :: rest))) : W p l e R s m args below meth c H locs cells slots Q (F0 m pc ls (.int (nI i) :: .ref a :: rest)) :=
  va_iald hx hb hK hP q0 t0 ha ht (vp_in_nI hi hn) hdg (by rw [nI_clamp (Nat.lt_trans hi hn)]; exact kk)
theorem rf_zald (hx : p.tables.exec = Jvm.exec) (hb : c.code = cc) (hK : va_K D cl tys s) (hP : va_P D cl ws H) (q0 t0 : Nat) {cA : ClassId} {n i : Nat} {f : Nat → Int32} (ha : ws[q0]? = some (a, .inl (cA, n, .inl f))) (ht : tys[t0]? = some (cA, .boolean)) (hi : i < n) (hn : n < 2 ^ 31) (hdg : decode cc pc = .ok (.baload, 1)) (kk : W p l e R s m args below meth c H locs cells slots Q (F0 m (pc + 1) ls (.int (f i) :: rest))) : W p l e R s m args below meth c H locs cells slots Q (F0 m pc ls (.int (nI i) :: .ref a :: rest)) :=
  va_zald hx hb hK hP q0 t0 ha ht (vp_in_nI hi hn) hdg (by rw [nI_clamp (Nat.lt_trans hi hn)]; exact kk)
theorem rf_aldq (hx : p.tables.exec = Jvm.exec) (hb : c.code = cc) (hK : va_K D cl tys s) (hP : va_P D cl ws H) (q0 t0 : Nat) {cA : ClassId} {C : String} {n i : Nat} {f : Nat → Option Nat} (ha : ws[q0]? = some (a, .inl (cA, n, .inr (.inr (.inr (.inr f)))))) (ht : tys[t0]? = some (cA, .object C)) (hi : i < n) (hn : n < 2 ^ 31) (hdg : decode cc pc = .ok (.aaload, 1)) (kk : W p l e R s m args below meth c H locs cells slots Q (F0 m (pc + 1) ls (va_rf (f i) :: rest))) : W p l e R s m args below meth c H locs cells slots Q (F0 m pc ls (.int (nI i) :: .ref a :: rest)) :=
  va_aldq hx hb hK hP q0 t0 ha ht (vp_in_nI hi hn) hdg (by rw [nI_clamp (Nat.lt_trans hi hn)]; exact kk)
theorem rf_iast (hx : p.tables.exec = Jvm.exec) (hb : c.code = cc) (hK : va_K D cl tys s) (hP : va_P D cl ws H) (hD : va_D A ws) (hS : va_S A H0 H locs) (q0 t0 : Nat) {cA : ClassId} {n i : Nat} {f : Nat → Int32} (ha : ws[q0]? = some (a, .inl (cA, n, .inl f))) (ht : tys[t0]? = some (cA, .int)) {x : Int32} (hi : i < n) (hn : n < 2 ^ 31) (hdg : decode cc pc = .ok (.iastore, 1))
    (kk : ∀ (H1 : Heap) (locs1 : List Loc), va_P D cl (ws.set q0 (a, .inl (cA, n, .inl (upd f i x)))) H1 → va_D A (ws.set q0 (a, .inl (cA, n, .inl (upd f i x)))) → va_S A H0 H1 locs1 → W p l e R s m args below meth c H1 locs1 cells slots Q (F0 m (pc + 1) ls rest)) : W p l e R s m args below meth c H locs cells slots Q (F0 m pc ls (.int x :: .int (nI i) :: .ref a :: rest)) :=
  va_iast hx hb hK hP hD hS q0 t0 ha ht (vp_in_nI hi hn) hdg (by rw [nI_clamp (Nat.lt_trans hi hn)]; exact kk)
theorem rf_zast (hx : p.tables.exec = Jvm.exec) (hb : c.code = cc) (hK : va_K D cl tys s) (hP : va_P D cl ws H) (hD : va_D A ws) (hS : va_S A H0 H locs) (q0 t0 : Nat) {cA : ClassId} {n i : Nat} {f : Nat → Int32} (ha : ws[q0]? = some (a, .inl (cA, n, .inl f))) (ht : tys[t0]? = some (cA, .boolean)) {x : Int32} (hi : i < n) (hn : n < 2 ^ 31) (hx1 : vp_nar .boolean x = x) (hdg : decode cc pc = .ok (.bastore, 1))
    (kk : ∀ (H1 : Heap) (locs1 : List Loc), va_P D cl (ws.set q0 (a, .inl (cA, n, .inl (upd f i x)))) H1 → va_D A (ws.set q0 (a, .inl (cA, n, .inl (upd f i x)))) → va_S A H0 H1 locs1 → W p l e R s m args below meth c H1 locs1 cells slots Q (F0 m (pc + 1) ls rest)) : W p l e R s m args below meth c H locs cells slots Q (F0 m pc ls (.int x :: .int (nI i) :: .ref a :: rest)) :=
  va_zast hx hb hK hP hD hS q0 t0 ha ht (vp_in_nI hi hn) hdg (by rw [nI_clamp (Nat.lt_trans hi hn), hx1]; exact kk)
theorem rf_astq (hx : p.tables.exec = Jvm.exec) (hb : c.code = cc) (hK : va_K D cl tys s) (hP : va_P D cl ws H) (hD : va_D A ws) (hS : va_S A H0 H locs) (q0 t0 qk ci : Nat) {cA : ClassId} {r : vw_C} {n i v : Nat} {vs : List Value} {f : Nat → Option Nat} (ha : ws[q0]? = some (a, .inl (cA, n, .inr (.inr (.inr (.inr f)))))) (ht : tys[t0]? = some (cA, .object r.1)) (hv : ws[qk]? = some (v, .inr (ci, vs))) (hc : cl[ci]? = some r) (hi : i < n) (hn : n < 2 ^ 31) (hdg : decode cc pc = .ok (.aastore, 1))
    (kk : ∀ (H1 : Heap) (locs1 : List Loc), va_P D cl (ws.set q0 (a, .inl (cA, n, .inr (.inr (.inr (.inr (va_up f i (some v)))))))) H1 → va_D A (ws.set q0 (a, .inl (cA, n, .inr (.inr (.inr (.inr (va_up f i (some v)))))))) → va_S A H0 H1 locs1 → W p l e R s m args below meth c H1 locs1 cells slots Q (F0 m (pc + 1) ls rest)) : W p l e R s m args below meth c H locs cells slots Q (F0 m pc ls (.ref v :: .int (nI i) :: .ref a :: rest)) :=
  va_astq hx hb hK hP hD hS q0 t0 qk ci ha ht hv hc (vp_in_nI hi hn) hdg (by rw [nI_clamp (Nat.lt_trans hi hn)]; exact kk)
theorem rf_astqN (hx : p.tables.exec = Jvm.exec) (hb : c.code = cc) (hK : va_K D cl tys s) (hP : va_P D cl ws H) (hD : va_D A ws) (hS : va_S A H0 H locs) (q0 t0 : Nat) {cA : ClassId} {C : String} {n i : Nat} {f : Nat → Option Nat} (ha : ws[q0]? = some (a, .inl (cA, n, .inr (.inr (.inr (.inr f)))))) (ht : tys[t0]? = some (cA, .object C)) (hi : i < n) (hn : n < 2 ^ 31) (hdg : decode cc pc = .ok (.aastore, 1))
    (kk : ∀ (H1 : Heap) (locs1 : List Loc), va_P D cl (ws.set q0 (a, .inl (cA, n, .inr (.inr (.inr (.inr (va_up f i none))))))) H1 → va_D A (ws.set q0 (a, .inl (cA, n, .inr (.inr (.inr (.inr (va_up f i none))))))) → va_S A H0 H1 locs1 → W p l e R s m args below meth c H1 locs1 cells slots Q (F0 m (pc + 1) ls rest)) : W p l e R s m args below meth c H locs cells slots Q (F0 m pc ls (.null :: .int (nI i) :: .ref a :: rest)) :=
  va_astqN hx hb hK hP hD hS q0 t0 ha ht (vp_in_nI hi hn) hdg (by rw [nI_clamp (Nat.lt_trans hi hn)]; exact kk)
/-- one object of a pool, by itself -/
theorem rf_pl {X : va_W} {L : List Nat} {f : Nat → va_E} {x : va_E} (hP : va_P D cl (X ++ va_pl L f) H) (h : a ∈ L) (he : f a = x) : va_P D cl [(a, x)] H := by
  obtain ⟨k, hk⟩ := va_pl_get (X := X) (f := f) h
  rw [he] at hk
  intro i q hq
  match i, hq with
  | 0, hq => cases hq; exact hP k _ hk
  | i + 1, hq => simp at hq
end RfArr
/-- a boolean's answer -/
def rf_tf (r : Int32) (P : Prop) : Prop := (r = 1 ∧ P) ∨ (r = 0 ∧ ¬ P)
theorem rf_tf.t {r : Int32} {P : Prop} (h : rf_tf r P) (n : ¬ r = 0) : P := by
  rcases h with ⟨_, h1⟩ | ⟨h1, _⟩
  · exact h1
  · exact absurd h1 n
theorem rf_tf.f {r : Int32} {P : Prop} (h : rf_tf r P) (n : r = 0) : ¬ P := by
  rcases h with ⟨h1, _⟩ | ⟨_, h1⟩
  · rw [h1] at n; exact absurd n (by decide)
  · exact h1
theorem rf_tf.nar {r : Int32} {P : Prop} (h : rf_tf r P) : narrow .boolean (.int r) = .int r := by
  rcases h with ⟨h1, _⟩ | ⟨h1, _⟩ <;> (rw [h1]; rfl)
theorem rf_T {P : Prop} (h : P) : rf_tf 1 P := Or.inl ⟨rfl, h⟩
theorem rf_F {P : Prop} (h : ¬ P) : rf_tf 0 P := Or.inr ⟨rfl, h⟩
theorem rf_tf.same {r r' : Int32} {P P' : Prop} (h : rf_tf r P) (h' : rf_tf r' P') (e : P ↔ P') : r = r' := by
  rcases h with ⟨h1, h2⟩ | ⟨h1, h2⟩ <;> rcases h' with ⟨h3, h4⟩ | ⟨h3, h4⟩
  · rw [h1, h3]
  · exact absurd (e.mp h2) h4
  · exact absurd (e.mpr h4) h2
  · rw [h1, h3]
theorem rf_tf.to {r : Int32} {P P' : Prop} (h : rf_tf r P) (e : P ↔ P') : rf_tf r P' := by
  rcases h with ⟨h1, h2⟩ | ⟨h1, h2⟩
  · exact Or.inl ⟨h1, e.mp h2⟩
  · exact Or.inr ⟨h1, fun q => h2 (e.mpr q)⟩
/-- the least of 64 with C, or -1 -/
def rf_First (C : Nat → Prop) (r : Int32) : Prop := (∃ k, k < 64 ∧ r = nI k ∧ C k ∧ ∀ j, j < k → ¬ C j) ∨ (r = -1 ∧ ∀ j, j < 64 → ¬ C j)
theorem rf_First.uniq {C C' : Nat → Prop} {r r' : Int32} (h : rf_First C r) (h' : rf_First C' r') (e : ∀ k, k < 64 → (C k ↔ C' k)) : r = r' := by
  rcases h with ⟨k, hk, h1, h2, h3⟩ | ⟨h1, h2⟩ <;> rcases h' with ⟨j, hj, g1, g2, g3⟩ | ⟨g1, g2⟩
  · have : k = j := by
      rcases Nat.lt_trichotomy k j with q | q | q
      · exact absurd ((e k hk).mp h2) (g3 k q)
      · exact q
      · exact absurd ((e j hj).mpr g2) (h3 j q)
    rw [h1, g1, this]
  · exact absurd ((e k hk).mp h2) (g2 k hk)
  · exact absurd ((e j hj).mpr g2) (h2 j hj)
  · rw [h1, g1]
theorem rf_heap {p : Program} {l : Launch} {e : Env} {R : Room} {s : State} {m : MethodId} {args : Array Value} {below : List Frame} {meth : Method} {c : Code} {H H' : Heap} {locs : List Loc} {cells slots : Nat} {Q : State → Prop} {g : JFrame} (h : H' = H) (k : W p l e R s m args below meth c H' locs cells slots Q g) : W p l e R s m args below meth c H locs cells slots Q g := h ▸ k
/-- a contract of a method whose class has entries of its own in the model, but none for this one -/
theorem rf_ofWF {l : Launch} {y : MethodName} {ws ws' : List Cond} {rm : Room} {Pc : Array Value → State → Prop} {Qc : Array Value → State → Outcome → State → Prop} {mc ms : Nat} {free : Addr → Prop} {cc : ByteArray} {maxL : Nat} {ret : Option FieldType}
    (hy : plainFor y = true) (hw : ws = Cond.code y cc maxL ret :: ws')
    (body : ∀ p e s m args below meth c s₁, BodyLoose p l y (headSpec ws rm) cc maxL ret e s m args below meth c s₁ → c.maxLocals = maxL → Pc args s →
      W p l e (headSpec ws rm).room s m args below meth c s.heap [] 0 0 (MQ below Qc args s mc ms free) (entryFrame m args maxL)) : Met l y ws rm Pc Qc mc ms free := by
  refine MetFree.of_bodySF (code := cc) (maxLocals := maxL) (ret := ret) hy ?_ ?_
  · intro args s m h hn
    obtain ⟨meth, c, h1, h2, h3, h4, h5, h6, -, -⟩ := Cond.code_spec hn (atoms_spec (ws := ws) h _ (by rw [hw]; exact List.mem_cons_self))
    exact ⟨meth, c, h1, h2, h3, h4, h5, h6⟩
  · intro p e s m args below meth c s₁ B hml hP _
    have hh0 : s₁.heap = s.heap := by rw [B.state]; rfl
    obtain ⟨t, a1, o, b1, b2, b3⟩ := body p e s m args below meth c s₁ B hml hP s₁ hh0 (Stand.of_body B)
    exact ⟨t, o, a1, b1, b2, ⟨b3.1, b3.2⟩⟩
theorem ml_RF_21 : rf_LS "RayField" 21 y_RF_isPlace b_RF_isPlace 3 (some (.boolean)) 3 := ⟨w_41, w_39, w_40, w_1, ⟨by decide +kernel, by decide +kernel, by decide +kernel⟩⟩
theorem ml_RF_25 : rf_LV "RayField" 25 y_RF_leastFreeNumber b_RF_leastFreeNumber 2 (some (.int)) 0 := ⟨w_48, w_45, w_47, (big_mem (List.mem_append_left _ (List.mem_of_getElem? (i := 0) (by decide +kernel))) (by decide +kernel)), w_1, ⟨by decide +kernel, by decide +kernel, by decide +kernel⟩⟩
theorem ml_RF_29 : rf_LS "RayField" 29 y_RF_isNumber b_RF_isNumber 1 (some (.boolean)) 1 := ⟨w_51, w_49, w_50, w_1, ⟨by decide +kernel, by decide +kernel, by decide +kernel⟩⟩
theorem ml_RF_33 : rf_LI "RayField" 33 y_Wall_init b_Wall_init 5 4 := ⟨w_55, w_53, w_54, w_3, rfl, ⟨by decide +kernel, by decide +kernel, by decide +kernel⟩⟩
theorem ml_RF_36 : rf_LV "RayField" 36 y_RF_clashes b_RF_clashes 4 (some (.boolean)) 1 := ⟨w_81, w_78, w_80, (big_mem (List.mem_append_left _ (List.mem_of_getElem? (i := 1) (by decide +kernel))) (by decide +kernel)), w_1, ⟨by decide +kernel, by decide +kernel, by decide +kernel⟩⟩
theorem ml_RF_44 : rf_LV "RayField" 44 y_RF_meetAgain b_RF_meetAgain 4 none 0 := ⟨w_117, w_114, w_116, (big_mem (List.mem_append_left _ (List.mem_of_getElem? (i := 5) (by decide +kernel))) (by decide +kernel)), w_1, ⟨by decide +kernel, by decide +kernel, by decide +kernel⟩⟩
theorem ml_RF_47 : rf_LV "RayField" 47 y_RF_wallNumbered b_RF_wallNumbered 2 (some (.object "RayField$Wall")) 1 := ⟨w_175, w_172, w_174, (big_mem (List.mem_append_left _ (List.mem_of_getElem? (i := 8) (by decide +kernel))) (by decide +kernel)), w_1, ⟨by decide +kernel, by decide +kernel, by decide +kernel⟩⟩
theorem ml_RF_51 : rf_LV "RayField" 51 y_Wall_exchangeEnds b_Wall_exchangeEnds 3 none 0 := ⟨w_183, w_180, w_181, w_182, w_3, ⟨by decide +kernel, by decide +kernel, by decide +kernel⟩⟩
theorem ml_RF_56 : rf_LI "RayField" 56 y_Ray_init b_Ray_init 5 4 := ⟨w_196, w_194, w_195, w_6, rfl, ⟨by decide +kernel, by decide +kernel, by decide +kernel⟩⟩
theorem ml_RF_64 : rf_LV "RayField" 64 y_RF_meetingAt b_RF_meetingAt 2 (some (.object "RayField$Meeting")) 1 := ⟨w_224, w_221, w_223, (big_mem (List.mem_append_left _ (List.mem_of_getElem? (i := 9) (by decide +kernel))) (by decide +kernel)), w_1, ⟨by decide +kernel, by decide +kernel, by decide +kernel⟩⟩
theorem ml_RF_76 : rf_LS "RayField" 76 y_RF_isBetween b_RF_isBetween 3 (some (.boolean)) 3 := ⟨w_44, w_42, w_43, w_1, ⟨by decide +kernel, by decide +kernel, by decide +kernel⟩⟩
theorem ml_RF_85 : rf_LV "RayField" 85 y_Meeting_roundedDown b_Meeting_roundedDown 3 (some (.long)) 1 := ⟨w_238, w_235, w_236, w_237, w_5, ⟨by decide +kernel, by decide +kernel, by decide +kernel⟩⟩
theorem ml_RF_94 : rf_LV "RayField" 94 y_Meeting_isAtMost b_Meeting_isAtMost 5 (some (.boolean)) 2 := ⟨w_255, w_252, w_253, w_254, w_5, ⟨by decide +kernel, by decide +kernel, by decide +kernel⟩⟩
theorem ml_RF_98 : rf_LV "RayField" 98 y_Wall_covers b_Wall_covers 3 (some (.boolean)) 2 := ⟨w_263, w_260, w_261, w_262, w_3, ⟨by decide +kernel, by decide +kernel, by decide +kernel⟩⟩
theorem ml_RF_115 : rf_LV "RayField" 115 y_Wall_clashesWith b_Wall_clashesWith 6 (some (.boolean)) 1 := ⟨w_85, w_82, w_83, w_84, w_3, ⟨by decide +kernel, by decide +kernel, by decide +kernel⟩⟩
theorem ml_RF_118 : rf_LV "RayField" 118 y_RF_meetOne b_RF_meetOne 5 none 3 := ⟨w_121, w_118, w_120, (big_mem (List.mem_append_left _ (List.mem_of_getElem? (i := 6) (by decide +kernel))) (by decide +kernel)), w_1, ⟨by decide +kernel, by decide +kernel, by decide +kernel⟩⟩
theorem ml_RF_122 : rf_LIN "RayField" 122 "RayField" y_Meeting_init b_Meeting_init 1 0 := ⟨w_125, w_123, w_124, w_5, rfl, ⟨by decide +kernel, by decide +kernel, by decide +kernel⟩⟩
theorem ml_RF_123 : rf_LV "RayField" 123 y_Meeting_fill b_Meeting_fill 12 (some (.boolean)) 3 := ⟨w_150, w_147, w_148, w_149, w_5, ⟨by decide +kernel, by decide +kernel, by decide +kernel⟩⟩
theorem ml_RF_127 : rf_LV "RayField" 127 y_RF_sortIn b_RF_sortIn 4 none 1 := ⟨w_163, w_160, w_162, (big_mem (List.mem_append_left _ (List.mem_of_getElem? (i := 7) (by decide +kernel))) (by decide +kernel)), w_1, ⟨by decide +kernel, by decide +kernel, by decide +kernel⟩⟩
theorem ml_RF_131 : rf_LV "RayField" 131 y_Meeting_isNearerThan b_Meeting_isNearerThan 2 (some (.boolean)) 1 := ⟨w_167, w_164, w_165, w_166, w_5, ⟨by decide +kernel, by decide +kernel, by decide +kernel⟩⟩
theorem ml_Meeting_18 : rf_LV "RayField$Meeting" 18 y_Ray_side b_Ray_side 3 (some (.long)) 2 := ⟨w_154, w_151, w_152, w_153, w_6, ⟨by decide +kernel, by decide +kernel, by decide +kernel⟩⟩
theorem ml_Meeting_36 : rf_LV "RayField$Meeting" 36 y_Wall_side b_Wall_side 3 (some (.long)) 2 := ⟨w_89, w_156, w_87, w_88, w_3, ⟨by decide +kernel, by decide +kernel, by decide +kernel⟩⟩
theorem ml_Meeting_62 : rf_LS "RayField$Meeting" 62 y_Math_floorDiv b_Math_floorDiv 6 (some (.long)) 2 := ⟨w_241, w_239, w_240, w_4, ⟨by decide +kernel, by decide +kernel, by decide +kernel⟩⟩
theorem ml_Ray_22 : rf_LSN "RayField$Ray" 22 "RayField" y_RF_cross b_RF_cross 8 (some (.long)) 4 := ⟨w_92, w_155, w_91, w_1, ⟨by decide +kernel, by decide +kernel, by decide +kernel⟩⟩
theorem ml_Wall_22 : rf_LSN "RayField$Wall" 22 "RayField" y_RF_cross b_RF_cross 8 (some (.long)) 4 := ⟨w_92, w_90, w_91, w_1, ⟨by decide +kernel, by decide +kernel, by decide +kernel⟩⟩
theorem ml_Wall_28 : rf_LV "RayField$Wall" 28 y_Wall_side b_Wall_side 3 (some (.long)) 2 := ⟨w_89, w_86, w_87, w_88, w_3, ⟨by decide +kernel, by decide +kernel, by decide +kernel⟩⟩
theorem ml_Wall_41 : rf_LSN "RayField$Wall" 41 "RayField" y_RF_isBetween b_RF_isBetween 3 (some (.boolean)) 3 := ⟨w_44, w_264, w_43, w_1, ⟨by decide +kernel, by decide +kernel, by decide +kernel⟩⟩
theorem ml_Wall_45 : rf_LV "RayField$Wall" 45 y_Wall_overlapsOnItsLine b_Wall_overlapsOnItsLine 2 (some (.boolean)) 1 := ⟨w_96, w_93, w_95, (big_mem (List.mem_append_left _ (List.mem_of_getElem? (i := 2) (by decide +kernel))) (by decide +kernel)), w_3, ⟨by decide +kernel, by decide +kernel, by decide +kernel⟩⟩
theorem ml_Wall_49 : rf_LV "RayField$Wall" 49 y_Wall_sharesEndWith b_Wall_sharesEndWith 2 (some (.boolean)) 1 := ⟨w_109, w_106, w_108, (big_mem (List.mem_append_left _ (List.mem_of_getElem? (i := 3) (by decide +kernel))) (by decide +kernel)), w_3, ⟨by decide +kernel, by decide +kernel, by decide +kernel⟩⟩
theorem ml_Wall_52 : rf_LS "RayField$Wall" 52 y_Wall_commonLength b_Wall_commonLength 6 (some (.int)) 4 := ⟨w_99, w_97, w_98, w_3, ⟨by decide +kernel, by decide +kernel, by decide +kernel⟩⟩
theorem ml_Wall_56 : rf_LV "RayField$Wall" 56 y_Wall_hasEnd b_Wall_hasEnd 3 (some (.boolean)) 2 := ⟨w_113, w_110, w_112, (big_mem (List.mem_append_left _ (List.mem_of_getElem? (i := 4) (by decide +kernel))) (by decide +kernel)), w_3, ⟨by decide +kernel, by decide +kernel, by decide +kernel⟩⟩
theorem ml_Law_9 : rf_LI "RayFieldLaw" 9 y_RF_init b_RF_init 1 0 := ⟨w_11, w_9, w_10, w_1, rfl, ⟨by decide +kernel, by decide +kernel, by decide +kernel⟩⟩
theorem ml_Law_12 : rf_LI "RayFieldLaw" 12 y_Md_init b_Md_init 1 0 := ⟨w_278, w_276, w_277, w_2, rfl, ⟨by decide +kernel, by decide +kernel, by decide +kernel⟩⟩
theorem ml_Law_13 : rf_LV "RayFieldLaw" 13 y_RF_put b_RF_put 7 (some (.int)) 4 := ⟨w_38, w_35, w_36, w_37, w_1, ⟨by decide +kernel, by decide +kernel, by decide +kernel⟩⟩
theorem ml_Law_17 : rf_LV "RayFieldLaw" 17 y_Md_put b_Md_put 7 (some (.int)) 4 := ⟨w_340, w_337, w_338, w_339, w_2, ⟨by decide +kernel, by decide +kernel, by decide +kernel⟩⟩
theorem ml_Law_18 : rf_LV "RayFieldLaw" 18 y_RF_take b_RF_take 2 (some (.boolean)) 1 := ⟨w_171, w_168, w_169, w_170, w_1, ⟨by decide +kernel, by decide +kernel, by decide +kernel⟩⟩
theorem ml_Law_22 : rf_LV "RayFieldLaw" 22 y_Md_take b_Md_take 2 (some (.boolean)) 1 := ⟨w_366, w_363, w_364, w_365, w_2, ⟨by decide +kernel, by decide +kernel, by decide +kernel⟩⟩
theorem ml_Law_23 : rf_LV "RayFieldLaw" 23 y_RF_turn b_RF_turn 3 (some (.boolean)) 1 := ⟨w_179, w_176, w_177, w_178, w_1, ⟨by decide +kernel, by decide +kernel, by decide +kernel⟩⟩
theorem ml_Law_26 : rf_LV "RayFieldLaw" 26 y_Md_turn b_Md_turn 4 (some (.boolean)) 1 := ⟨w_374, w_371, w_372, w_373, w_2, ⟨by decide +kernel, by decide +kernel, by decide +kernel⟩⟩
theorem ml_Law_27 : rf_LV "RayFieldLaw" 27 y_RF_clear b_RF_clear 2 none 0 := ⟨w_187, w_184, w_185, w_186, w_1, ⟨by decide +kernel, by decide +kernel, by decide +kernel⟩⟩
theorem ml_Law_30 : rf_LV "RayFieldLaw" 30 y_Md_clear b_Md_clear 2 none 0 := ⟨w_378, w_375, w_376, w_377, w_2, ⟨by decide +kernel, by decide +kernel, by decide +kernel⟩⟩
theorem ml_Law_31 : rf_LV "RayFieldLaw" 31 y_RF_ray b_RF_ray 5 (some (.boolean)) 4 := ⟨w_191, w_188, w_189, w_190, w_1, ⟨by decide +kernel, by decide +kernel, by decide +kernel⟩⟩
theorem ml_Law_35 : rf_LV "RayFieldLaw" 35 y_Md_ray b_Md_ray 5 (some (.boolean)) 4 := ⟨w_382, w_379, w_380, w_381, w_2, ⟨by decide +kernel, by decide +kernel, by decide +kernel⟩⟩
theorem ml_Law_36 : rf_LV "RayFieldLaw" 36 y_RF_met b_RF_met 1 (some (.int)) 0 := ⟨w_216, w_213, w_214, w_215, w_1, ⟨by decide +kernel, by decide +kernel, by decide +kernel⟩⟩
theorem ml_Law_40 : rf_LV "RayFieldLaw" 40 y_Md_met b_Md_met 1 (some (.int)) 0 := ⟨w_386, w_383, w_384, w_385, w_2, ⟨by decide +kernel, by decide +kernel, by decide +kernel⟩⟩
theorem ml_Law_41 : rf_LV "RayFieldLaw" 41 y_RF_wall b_RF_wall 3 (some (.int)) 1 := ⟨w_220, w_217, w_218, w_219, w_1, ⟨by decide +kernel, by decide +kernel, by decide +kernel⟩⟩
theorem ml_Law_45 : rf_LV "RayFieldLaw" 45 y_Md_wall b_Md_wall 2 (some (.int)) 1 := ⟨w_402, w_399, w_400, w_401, w_2, ⟨by decide +kernel, by decide +kernel, by decide +kernel⟩⟩
theorem ml_Law_46 : rf_LV "RayFieldLaw" 46 y_RF_isRight b_RF_isRight 3 (some (.boolean)) 1 := ⟨w_228, w_225, w_226, w_227, w_1, ⟨by decide +kernel, by decide +kernel, by decide +kernel⟩⟩
theorem ml_Law_49 : rf_LV "RayFieldLaw" 49 y_Md_isRight b_Md_isRight 2 (some (.boolean)) 1 := ⟨w_410, w_407, w_408, w_409, w_2, ⟨by decide +kernel, by decide +kernel, by decide +kernel⟩⟩
theorem ml_Law_50 : rf_LV "RayFieldLaw" 50 y_RF_times b_RF_times 4 (some (.long)) 2 := ⟨w_232, w_229, w_230, w_231, w_1, ⟨by decide +kernel, by decide +kernel, by decide +kernel⟩⟩
theorem ml_Law_54 : rf_LV "RayFieldLaw" 54 y_Md_times b_Md_times 4 (some (.long)) 2 := ⟨w_414, w_411, w_412, w_413, w_2, ⟨by decide +kernel, by decide +kernel, by decide +kernel⟩⟩
theorem ml_Law_55 : rf_LV "RayFieldLaw" 55 y_RF_along b_RF_along 3 (some (.int)) 1 := ⟨w_246, w_243, w_244, w_245, w_1, ⟨by decide +kernel, by decide +kernel, by decide +kernel⟩⟩
theorem ml_Law_58 : rf_LV "RayFieldLaw" 58 y_Md_along b_Md_along 3 (some (.int)) 1 := ⟨w_420, w_417, w_418, w_419, w_2, ⟨by decide +kernel, by decide +kernel, by decide +kernel⟩⟩
theorem ml_Law_59 : rf_LV "RayFieldLaw" 59 y_RF_within b_RF_within 6 (some (.int)) 2 := ⟨w_251, w_248, w_249, w_250, w_1, ⟨by decide +kernel, by decide +kernel, by decide +kernel⟩⟩
theorem ml_Law_63 : rf_LV "RayFieldLaw" 63 y_Md_within b_Md_within 5 (some (.int)) 2 := ⟨w_428, w_425, w_426, w_427, w_2, ⟨by decide +kernel, by decide +kernel, by decide +kernel⟩⟩
theorem ml_Law_64 : rf_LV "RayFieldLaw" 64 y_RF_on b_RF_on 5 (some (.int)) 2 := ⟨w_259, w_256, w_257, w_258, w_1, ⟨by decide +kernel, by decide +kernel, by decide +kernel⟩⟩
theorem ml_Law_67 : rf_LV "RayFieldLaw" 67 y_Md_on b_Md_on 4 (some (.int)) 2 := ⟨w_432, w_429, w_430, w_431, w_2, ⟨by decide +kernel, by decide +kernel, by decide +kernel⟩⟩
theorem ml_Law_68 : rf_LV "RayFieldLaw" 68 y_RF_of b_RF_of 4 (some (.int)) 2 := ⟨w_268, w_265, w_266, w_267, w_1, ⟨by decide +kernel, by decide +kernel, by decide +kernel⟩⟩
theorem ml_Law_71 : rf_LV "RayFieldLaw" 71 y_Md_of b_Md_of 3 (some (.int)) 2 := ⟨w_436, w_433, w_434, w_435, w_2, ⟨by decide +kernel, by decide +kernel, by decide +kernel⟩⟩
theorem ml_Law_72 : rf_LV "RayFieldLaw" 72 y_RF_look b_RF_look 2 (some (.int)) 1 := ⟨w_273, w_270, w_271, w_272, w_1, ⟨by decide +kernel, by decide +kernel, by decide +kernel⟩⟩
theorem ml_Law_75 : rf_LV "RayFieldLaw" 75 y_Md_look b_Md_look 2 (some (.int)) 1 := ⟨w_441, w_438, w_439, w_440, w_2, ⟨by decide +kernel, by decide +kernel, by decide +kernel⟩⟩
theorem ml_Md_33 : rf_LS "RayFieldModel" 33 y_Md_cross b_Md_cross 8 (some (.long)) 4 := ⟨w_354, w_352, w_353, w_2, ⟨by decide +kernel, by decide +kernel, by decide +kernel⟩⟩
theorem ml_Md_37 : rf_LV "RayFieldModel" 37 y_Md_isEnd b_Md_isEnd 4 (some (.boolean)) 3 := ⟨w_358, w_355, w_357, (big_mem (List.mem_append_left _ (List.mem_of_getElem? (i := 12) (by decide +kernel))) (by decide +kernel)), w_2, ⟨by decide +kernel, by decide +kernel, by decide +kernel⟩⟩
theorem ml_Md_41 : rf_LV "RayFieldModel" 41 y_Md_isOn b_Md_isOn 8 (some (.boolean)) 3 := ⟨w_362, w_359, w_361, (big_mem (List.mem_append_left _ (List.mem_of_getElem? (i := 13) (by decide +kernel))) (by decide +kernel)), w_2, ⟨by decide +kernel, by decide +kernel, by decide +kernel⟩⟩
theorem ml_Md_44 : rf_LV "RayFieldModel" 44 y_Md_free b_Md_free 2 (some (.int)) 0 := ⟨w_344, w_341, w_343, (big_mem (List.mem_append_left _ (List.mem_of_getElem? (i := 10) (by decide +kernel))) (by decide +kernel)), w_2, ⟨by decide +kernel, by decide +kernel, by decide +kernel⟩⟩
theorem ml_Md_48 : rf_LS "RayFieldModel" 48 y_Md_isIn b_Md_isIn 2 (some (.boolean)) 2 := ⟨w_347, w_345, w_346, w_2, ⟨by decide +kernel, by decide +kernel, by decide +kernel⟩⟩
theorem ml_Md_52 : rf_LV "RayFieldModel" 52 y_Md_areApart b_Md_areApart 14 (some (.boolean)) 2 := ⟨w_351, w_348, w_350, (big_mem (List.mem_append_left _ (List.mem_of_getElem? (i := 11) (by decide +kernel))) (by decide +kernel)), w_2, ⟨by decide +kernel, by decide +kernel, by decide +kernel⟩⟩
theorem ml_Md_58 : rf_LV "RayFieldModel" 58 y_Md_isWall b_Md_isWall 2 (some (.boolean)) 1 := ⟨w_370, w_367, w_369, (big_mem (List.mem_append_left _ (List.mem_of_getElem? (i := 14) (by decide +kernel))) (by decide +kernel)), w_2, ⟨by decide +kernel, by decide +kernel, by decide +kernel⟩⟩
theorem ml_Md_94 : rf_LV "RayFieldModel" 94 y_Md_meets b_Md_meets 2 (some (.boolean)) 1 := ⟨w_394, w_391, w_393, (big_mem (List.mem_append_left _ (List.mem_of_getElem? (i := 16) (by decide +kernel))) (by decide +kernel)), w_2, ⟨by decide +kernel, by decide +kernel, by decide +kernel⟩⟩
theorem ml_Md_97 : rf_LV "RayFieldModel" 97 y_Md_isAhead b_Md_isAhead 8 (some (.boolean)) 2 := ⟨w_398, w_395, w_397, (big_mem (List.mem_append_left _ (List.mem_of_getElem? (i := 17) (by decide +kernel))) (by decide +kernel)), w_2, ⟨by decide +kernel, by decide +kernel, by decide +kernel⟩⟩
theorem ml_Md_100 : rf_LV "RayFieldModel" 100 y_Md_gather b_Md_gather 4 (some (.int)) 0 := ⟨w_390, w_387, w_389, (big_mem (List.mem_append_left _ (List.mem_of_getElem? (i := 15) (by decide +kernel))) (by decide +kernel)), w_2, ⟨by decide +kernel, by decide +kernel, by decide +kernel⟩⟩
theorem ml_Md_103 : rf_LV "RayFieldModel" 103 y_Md_isMet b_Md_isMet 2 (some (.boolean)) 1 := ⟨w_406, w_403, w_405, (big_mem (List.mem_append_left _ (List.mem_of_getElem? (i := 18) (by decide +kernel))) (by decide +kernel)), w_2, ⟨by decide +kernel, by decide +kernel, by decide +kernel⟩⟩
theorem ml_Md_111 : rf_LS "RayFieldModel" 111 y_Md_down b_Md_down 6 (some (.long)) 2 := ⟨w_424, w_422, w_423, w_2, ⟨by decide +kernel, by decide +kernel, by decide +kernel⟩⟩
end
section
/-! Pure words: what class and reference compute, as machine numbers; no machine here. -/
abbrev Q4 : Type := Int32 × Int32 × Int32 × Int32
def m_cross (px py qx qy : Int64) : Int64 := px * qy - py * qx
def m_side (w : Q4) (x y : Int32) : Int64 := m_cross (w.2.2.1 - w.1).toInt64 (w.2.2.2 - w.2.1).toInt64 (x - w.1).toInt64 (y - w.2.1).toInt64
def m_rside (r : Q4) (x y : Int32) : Int64 := m_cross r.2.2.1.toInt64 r.2.2.2.toInt64 (x - r.1).toInt64 (y - r.2.1).toInt64
def m_min (x y : Int32) : Int32 := if y < x then y else x
def m_max (x y : Int32) : Int32 := if x < y then y else x
def m_abs (x : Int64) : Int64 := if 0 < x then x else -x
def m_len (a b c d : Int32) : Int32 := m_min (m_max a b) (m_max c d) - m_max (m_min a b) (m_min c d)
-- the class
abbrev m_btw (v lo hi : Int32) : Prop := lo ≤ v ∧ v ≤ hi
abbrev m_cov (w : Q4) (x y : Int32) : Prop := m_side w x y = 0 ∧ m_btw x (m_min w.1 w.2.2.1) (m_max w.1 w.2.2.1) ∧ m_btw y (m_min w.2.1 w.2.2.2) (m_max w.2.1 w.2.2.2)
abbrev m_end (w : Q4) (x y : Int32) : Prop := (x = w.1 ∧ y = w.2.1) ∨ (x = w.2.2.1 ∧ y = w.2.2.2)
abbrev m_shares (v w : Q4) : Prop := m_end w v.1 v.2.1 ∨ m_end w v.2.2.1 v.2.2.2
abbrev m_ovl (v w : Q4) : Prop := 0 < m_len v.1 v.2.2.1 w.1 w.2.2.1 ∨ 0 < m_len v.2.1 v.2.2.2 w.2.1 w.2.2.2
abbrev m_clash (v w : Q4) : Prop := ((m_side v w.1 w.2.1 = 0 ∧ m_side v w.2.2.1 w.2.2.2 = 0) ∧ m_ovl v w) ∨ (¬ (m_side v w.1 w.2.1 = 0 ∧ m_side v w.2.2.1 w.2.2.2 = 0) ∧ ¬ m_shares v w ∧ m_side v w.1 w.2.1 * m_side v w.2.2.1 w.2.2.2 ≤ 0 ∧ m_side w v.1 v.2.1 * m_side w v.2.2.1 v.2.2.2 ≤ 0)
def m_a (w r : Q4) : Int64 := m_rside r w.1 w.2.1
def m_b (w r : Q4) : Int64 := m_rside r w.2.2.1 w.2.2.2
def m_p (w r : Q4) : Int64 := m_side w r.1 r.2.1
def m_q (w r : Q4) : Int64 := m_b w r - m_a w r
def m_bI (b : Bool) : Int32 := if b then 1 else 0
abbrev m_met (w r : Q4) : Prop := ¬ (m_a w r < 0 ↔ m_b w r < 0) ∧ ¬ m_p w r = 0 ∧ (m_p w r < 0 ↔ m_q w r < 0)
-- the reference
def k_lo (x y : Int32) : Int32 := if x < y then x else y
def k_hi (x y : Int32) : Int32 := if x < y then y else x
abbrev k_on (w : Q4) (x y : Int32) : Prop := m_side w x y = 0 ∧ k_lo w.1 w.2.2.1 ≤ x ∧ x ≤ k_hi w.1 w.2.2.1 ∧ k_lo w.2.1 w.2.2.2 ≤ y ∧ y ≤ k_hi w.2.1 w.2.2.2
abbrev k_end (w : Q4) (x y : Int32) : Prop := (w.1 = x ∧ w.2.1 = y) ∨ (w.2.2.1 = x ∧ w.2.2.2 = y)
abbrev k_opp (a b : Int64) : Prop := (a < 0 ∧ 0 < b) ∨ (0 < a ∧ b < 0)
abbrev k_cuts (v w : Q4) : Prop := k_opp (m_side v w.1 w.2.1) (m_side v w.2.2.1 w.2.2.2) ∧ k_opp (m_side w v.1 v.2.1) (m_side w v.2.2.1 v.2.2.2)
abbrev k_same (v w : Q4) : Prop := k_end w v.1 v.2.1 ∧ k_end w v.2.2.1 v.2.2.2
abbrev k_lies (v w : Q4) : Prop := (k_on v w.1 w.2.1 ∧ ¬ k_end v w.1 w.2.1) ∨ (k_on v w.2.2.1 w.2.2.2 ∧ ¬ k_end v w.2.2.1 w.2.2.2) ∨ (k_on w v.1 v.2.1 ∧ ¬ k_end w v.1 v.2.1) ∨ (k_on w v.2.2.1 v.2.2.2 ∧ ¬ k_end w v.2.2.1 v.2.2.2)
abbrev k_apart (v w : Q4) : Prop := ¬ k_cuts v w ∧ ¬ k_same v w ∧ ¬ k_lies v w
def k_p0 (w r : Q4) : Int64 := m_cross (w.1 - r.1).toInt64 (w.2.1 - r.2.1).toInt64 (w.2.2.1 - w.1).toInt64 (w.2.2.2 - w.2.1).toInt64
def k_up (w r : Q4) : Int64 := if m_q w r < 0 then -(k_p0 w r) else k_p0 w r
def k_dn (w r : Q4) : Int64 := if m_q w r < 0 then -(m_q w r) else m_q w r
abbrev k_met (w r : Q4) : Prop := ¬ (m_a w r < 0 ↔ m_b w r < 0) ∧ 0 < k_up w r
-- limits
def ok_c (x : Int32) (m : Int) : Prop := -m ≤ x.toInt ∧ x.toInt ≤ m
def ok_w (w : Q4) : Prop := ok_c w.1 2000 ∧ ok_c w.2.1 2000 ∧ ok_c w.2.2.1 2000 ∧ ok_c w.2.2.2 2000 ∧ ¬ (w.1 = w.2.2.1 ∧ w.2.1 = w.2.2.2)
def ok_r (r : Q4) : Prop := ok_c r.1 4000 ∧ ok_c r.2.1 4000 ∧ ok_c r.2.2.1 20000 ∧ ok_c r.2.2.2 20000
-- the met walls in their order: by insertion from behind
def g_pos (nr : Nat → Nat → Prop) (w : Nat) (f : Nat → Nat) (k p : Nat) : Prop := p ≤ k ∧ (∀ j, p ≤ j → j < k → nr w (f j)) ∧ (0 < p → ¬ nr w (f (p - 1)))
def g_ins (f : Nat → Nat) (p w : Nat) : Nat → Nat := fun j => if j < p then f j else if j = p then w else f (j - 1)
/-- n walls of those below k are met, the j-th is f j -/
def g_ok (mt : Nat → Prop) (nr : Nat → Nat → Prop) : Nat → Nat → (Nat → Nat) → Prop
  | 0, n, _ => n = 0
  | k + 1, n, f => (¬ mt k ∧ g_ok mt nr k n f) ∨ (mt k ∧ ∃ (n0 : Nat) (f0 : Nat → Nat) (p : Nat), g_ok mt nr k n0 f0 ∧ n = n0 + 1 ∧ g_pos nr k f0 n0 p ∧ ∀ j, j < n → f j = g_ins f0 p k j)
theorem g_pos_uniq {nr nr' : Nat → Nat → Prop} {w : Nat} {f f' : Nat → Nat} {k p p' : Nat} (h : g_pos nr w f k p) (h' : g_pos nr' w f' k p') (hf : ∀ j, j < k → f j = f' j) (hn : ∀ j, j < k → (nr w (f j) ↔ nr' w (f j))) : p = p' := by
  obtain ⟨h1, h2, h3⟩ := h
  obtain ⟨g1, g2, g3⟩ := h'
  rcases Nat.lt_trichotomy p p' with q | q | q
  · exfalso
    have a := g3 (by omega)
    have b := h2 (p' - 1) (by omega) (by omega)
    rw [← hf (p' - 1) (by omega)] at a
    exact a ((hn (p' - 1) (by omega)).mp b)
  · exact q
  · exfalso
    have a := h3 (by omega)
    have b := g2 (p - 1) (by omega) (by omega)
    rw [← hf (p - 1) (by omega)] at b
    exact a ((hn (p - 1) (by omega)).mpr b)
theorem g_ok_le {mt : Nat → Prop} {nr : Nat → Nat → Prop} : ∀ {k n : Nat} {f : Nat → Nat}, g_ok mt nr k n f → n ≤ k
  | 0, n, f, h => by simp only [g_ok] at h; omega
  | k + 1, n, f, h => by
    simp only [g_ok] at h
    rcases h with ⟨_, h⟩ | ⟨_, n0, f0, p, h, h1, _⟩
    · have := g_ok_le h; omega
    · have := g_ok_le h; omega
theorem g_ok_in {mt : Nat → Prop} {nr : Nat → Nat → Prop} : ∀ {k n : Nat} {f : Nat → Nat}, g_ok mt nr k n f → ∀ j, j < n → f j < k ∧ mt (f j)
  | 0, n, f, h, j, hj => by simp only [g_ok] at h; omega
  | k + 1, n, f, h, j, hj => by
    simp only [g_ok] at h
    rcases h with ⟨_, h⟩ | ⟨hk, n0, f0, p, h, h1, h2, h3⟩
    · have := g_ok_in h j hj; exact ⟨by omega, this.2⟩
    · rw [h3 j hj]
      unfold g_ins
      have hp := h2.1
      by_cases a : j < p
      · rw [if_pos a]; have := g_ok_in h j (by omega); exact ⟨by omega, this.2⟩
      · rw [if_neg a]
        by_cases b : j = p
        · rw [if_pos b]; exact ⟨by omega, hk⟩
        · rw [if_neg b]; have := g_ok_in h (j - 1) (by omega); exact ⟨by omega, this.2⟩
theorem g_ok_uniq {mt mt' : Nat → Prop} {nr nr' : Nat → Nat → Prop} (N : Nat) (hm : ∀ k, k < N → (mt k ↔ mt' k)) (hn : ∀ w v, v < w → w < N → mt w → mt v → (nr w v ↔ nr' w v)) : ∀ {k n n' : Nat} {f f' : Nat → Nat}, k ≤ N → g_ok mt nr k n f → g_ok mt' nr' k n' f' → n = n' ∧ ∀ j, j < n → f j = f' j
  | 0, n, n', f, f', _, h, h' => by simp only [g_ok] at h h'; exact ⟨by omega, fun j hj => by omega⟩
  | k + 1, n, n', f, f', hk, h, h' => by
    simp only [g_ok] at h h'
    have hmk := hm k (by omega)
    rcases h with ⟨a, h⟩ | ⟨a, n0, f0, p, h, h1, h2, h3⟩ <;> rcases h' with ⟨a', h'⟩ | ⟨a', n0', f0', p', h', h1', h2', h3'⟩
    · exact g_ok_uniq N hm hn (by omega) h h'
    · exact absurd (hmk.mpr a') a
    · exact absurd (hmk.mp a) a'
    · obtain ⟨e1, e2⟩ := g_ok_uniq N hm hn (by omega) h h'
      subst e1
      have ep : p = p' := g_pos_uniq h2 h2' e2 (fun j hj => by
        have q := g_ok_in h j hj
        exact hn k (f0 j) q.1 (by omega) a q.2)
      subst ep
      refine ⟨by omega, fun j hj => ?_⟩
      rw [h3 j hj, h3' j (by omega)]
      have hp := h2.1
      unfold g_ins
      by_cases c1 : j < p
      · rw [if_pos c1, if_pos c1]; exact e2 j (by omega)
      · rw [if_neg c1, if_neg c1]
        by_cases c2 : j = p
        · rw [if_pos c2, if_pos c2]
        · rw [if_neg c2, if_neg c2]; exact e2 (j - 1) (by omega)
/-- how many j below n have P (f j) -/
def g_cnt (P : Nat → Prop) (f : Nat → Nat) : Nat → Nat → Prop
  | 0, c => c = 0
  | n + 1, c => (P (f n) ∧ ∃ d, g_cnt P f n d ∧ c = d + 1) ∨ (¬ P (f n) ∧ g_cnt P f n c)
theorem g_cnt_congr {P : Nat → Prop} {f f' : Nat → Nat} : ∀ {n c : Nat}, (∀ j, j < n → f j = f' j) → g_cnt P f n c → g_cnt P f' n c
  | 0, c, _, h => h
  | n + 1, c, e, h => by
    simp only [g_cnt] at h ⊢
    rw [← e n (by omega)]
    rcases h with ⟨a, d, h, h1⟩ | ⟨a, h⟩
    · exact Or.inl ⟨a, d, g_cnt_congr (fun j hj => e j (by omega)) h, h1⟩
    · exact Or.inr ⟨a, g_cnt_congr (fun j hj => e j (by omega)) h⟩
theorem g_cnt_uniq {P P' : Nat → Prop} {f : Nat → Nat} : ∀ {n c c' : Nat}, (∀ j, j < n → (P (f j) ↔ P' (f j))) → g_cnt P f n c → g_cnt P' f n c' → c = c'
  | 0, c, c', _, h, h' => by simp only [g_cnt] at h h'; omega
  | n + 1, c, c', e, h, h' => by
    simp only [g_cnt] at h h'
    have en := e n (by omega)
    rcases h with ⟨a, d, h, h1⟩ | ⟨a, h⟩ <;> rcases h' with ⟨a', d', h', h1'⟩ | ⟨a', h'⟩
    · have := g_cnt_uniq (fun j hj => e j (by omega)) h h'; omega
    · exact absurd (en.mp a) a'
    · exact absurd (en.mpr a') a
    · exact g_cnt_uniq (fun j hj => e j (by omega)) h h'
theorem g_cnt_ex (P : Nat → Prop) (f : Nat → Nat) : ∀ n, ∃ c, g_cnt P f n c
  | 0 => ⟨0, rfl⟩
  | n + 1 => by
    obtain ⟨c, h⟩ := g_cnt_ex P f n
    by_cases a : P (f n)
    · exact ⟨c + 1, Or.inl ⟨a, c, h, rfl⟩⟩
    · exact ⟨c, Or.inr ⟨a, h⟩⟩
theorem g_cnt_ins {P : Nat → Prop} {f : Nat → Nat} {w : Nat} : ∀ {n c p : Nat}, p ≤ n → g_cnt P f n c → ((P w → g_cnt P (g_ins f p w) (n + 1) (c + 1)) ∧ (¬ P w → g_cnt P (g_ins f p w) (n + 1) c))
  | n, c, p, hp, h => by
    by_cases e : p = n
    · subst e
      have hf : ∀ j, j < p → f j = g_ins f p w j := fun j hj => by unfold g_ins; rw [if_pos hj]
      have hw : g_ins f p w p = w := by unfold g_ins; rw [if_neg (by omega), if_pos rfl]
      have h1 := g_cnt_congr hf h
      constructor
      · intro q; simp only [g_cnt]; rw [hw]; exact Or.inl ⟨q, c, h1, rfl⟩
      · intro q; simp only [g_cnt]; rw [hw]; exact Or.inr ⟨q, h1⟩
    · match n, h with
      | 0, h => omega
      | n + 1, h =>
        have hl : g_ins f p w (n + 1) = f n := by unfold g_ins; rw [if_neg (by omega), if_neg (by omega)]; rfl
        simp only [g_cnt] at h
        rcases h with ⟨a, d, h, h1⟩ | ⟨a, h⟩
        · have ih := g_cnt_ins (P := P) (f := f) (w := w) (n := n) (c := d) (p := p) (by omega) h
          subst h1
          constructor
          · intro q; show _ ∨ _; rw [hl]; exact Or.inl ⟨a, d + 1, ih.1 q, rfl⟩
          · intro q; show _ ∨ _; rw [hl]; exact Or.inl ⟨a, d, ih.2 q, rfl⟩
        · have ih := g_cnt_ins (P := P) (f := f) (w := w) (n := n) (c := c) (p := p) (by omega) h
          constructor
          · intro q; show _ ∨ _; rw [hl]; exact Or.inr ⟨a, ih.1 q⟩
          · intro q; show _ ∨ _; rw [hl]; exact Or.inr ⟨a, ih.2 q⟩
/-- the same number, counted over the walls and over the met ones in their order -/
theorem g_cnt_walls {mt P : Nat → Prop} {nr : Nat → Nat → Prop} : ∀ {k n c : Nat} {f : Nat → Nat}, g_ok mt nr k n f → g_cnt (fun w => mt w ∧ P w) (fun j => j) k c → g_cnt P f n c
  | 0, n, c, f, h, h' => by simp only [g_ok] at h; subst h; exact h'
  | k + 1, n, c, f, h, h' => by
    simp only [g_ok] at h
    simp only [g_cnt] at h'
    rcases h with ⟨a, h⟩ | ⟨a, n0, f0, p, h, h1, h2, h3⟩
    · rcases h' with ⟨b, _⟩ | ⟨_, h'⟩
      · exact absurd b.1 a
      · exact g_cnt_walls h h'
    · subst h1
      rcases h' with ⟨b, d, h', e⟩ | ⟨b, h'⟩
      · subst e
        exact g_cnt_congr (fun j hj => (h3 j hj).symm) ((g_cnt_ins h2.1 (g_cnt_walls h h')).1 b.2)
      · exact g_cnt_congr (fun j hj => (h3 j hj).symm) ((g_cnt_ins h2.1 (g_cnt_walls h h')).2 (fun q => b ⟨a, q⟩))
abbrev m_place (x y re : Int32) : Prop := m_btw x (-re) re ∧ m_btw y (-re) re
/-- Math.floorDiv as the JDK has it -/
def m_fdiv (x y : Int64) : Int64 := if (x ^^^ y) < 0 ∧ ¬ (x / y) * y = x then x / y - 1 else x / y
def m_rd (x d : Int64) : Int64 := if 0 < d then m_fdiv x d else -1
def m_fr (w r : Q4) : Int32 := if m_p w r < 0 then 1 else 0
/-- i is one of the numbers below n -/
def m_ix (i : Int32) (n k : Nat) : Prop := k < n ∧ i = nI k
theorem rf_ix {x : Int32} {n : Nat} (hn : n < 2 ^ 31) (h0 : ¬ x < 0) (h1 : ¬ nI n ≤ x) : ∃ k, k < n ∧ x = nI k := by
  rcases pk_ix x hn with h | h | h
  · exact absurd h h0
  · exact absurd h h1
  · exact h
theorem rf_ix0 {x : Int32} {n : Nat} (hn : n < 2 ^ 31) (h : x < 0 ∨ nI n ≤ x) : ∀ k, k < n → ¬ x = nI k := by
  intro k hk e
  subst e
  rcases h with h | h
  · exact nI_pos (by omega) h
  · exact nI_ge hk hn h
theorem rf_btw63 {x : Int32} (h : m_btw x 0 63) : ∃ k, k < 64 ∧ x = nI k := by
  refine rf_ix (n := 64) (by decide) (fun q => ?_) (fun q => ?_)
  · have a := h.1
    rw [Int32.le_iff_toInt_le] at a
    rw [Int32.lt_iff_toInt_lt] at q
    omega
  · have a := h.2
    rw [Int32.le_iff_toInt_le] at a q
    have e1 : (nI 64).toInt = 64 := by decide
    have e2 : (63 : Int32).toInt = 63 := by decide
    omega
theorem rf_btw63n {x : Int32} (h : ¬ m_btw x 0 63) : ∀ k, k < 64 → ¬ x = nI k := by
  intro k hk e
  subst e
  apply h
  constructor
  · exact nI_pos' (by omega)
  · have : nI k ≤ nI 63 := nI_le (by omega) (by decide)
    exact this
/-- the reference's rounding down -/
def k_down (a b : Int64) : Int64 := if ¬ a - a / b * b = 0 ∧ ¬ (a < 0 ↔ b < 0) then a / b - 1 else a / b
end
section
/-! Whole numbers: products, boxes, when two walls clash. -/
theorem z_b {x y M N : Int} (hx : -M ≤ x ∧ x ≤ M) (hy : -N ≤ y ∧ y ≤ N) : -(M * N) ≤ x * y ∧ x * y ≤ M * N := by
  have h1 := Int.mul_nonneg (show 0 ≤ M - x by omega) (show 0 ≤ N + y by omega)
  have h2 := Int.mul_nonneg (show 0 ≤ M + x by omega) (show 0 ≤ N - y by omega)
  have h3 := Int.mul_nonneg (show 0 ≤ M - x by omega) (show 0 ≤ N - y by omega)
  have h4 := Int.mul_nonneg (show 0 ≤ M + x by omega) (show 0 ≤ N + y by omega)
  simp only [Int.sub_mul, Int.add_mul, Int.mul_sub, Int.mul_add] at h1 h2 h3 h4
  constructor <;> omega
theorem z_sq {x : Int} (hx : x ≠ 0) : 0 < x * x := by
  rcases Int.lt_or_gt_of_ne hx with h | h
  · have := Int.mul_pos (show 0 < -x by omega) (show 0 < -x by omega)
    rwa [Int.neg_mul_neg] at this
  · exact Int.mul_pos h h
theorem z_nn {x y : Int} (hx : x ≠ 0) (h : 0 ≤ x * x * y) : 0 ≤ y := by
  apply Int.not_lt.mp
  intro hy
  have := Int.mul_neg_of_pos_of_neg (z_sq hx) hy
  omega
def z_box (p u : Int) : Prop := (0 ≤ p ∧ p ≤ u) ∨ (u ≤ p ∧ p ≤ 0)
theorem z_box_of {p u : Int} (h : 0 ≤ p * (u - p)) : z_box p u := by
  unfold z_box
  rcases Int.lt_trichotomy p 0 with q | q | q
  · right
    refine ⟨?_, by omega⟩
    apply Int.not_lt.mp
    intro r
    have := Int.mul_pos (show 0 < -p by omega) (show 0 < u - p by omega)
    rw [Int.neg_mul] at this
    omega
  · omega
  · left
    refine ⟨by omega, ?_⟩
    apply Int.not_lt.mp
    intro r
    have := Int.mul_neg_of_pos_of_neg q (show u - p < 0 by omega)
    omega
theorem z_of_box {p u : Int} (h : z_box p u) : 0 ≤ p * (u - p) := by
  rcases h with ⟨a, b⟩ | ⟨a, b⟩
  · exact Int.mul_nonneg a (by omega)
  · have := Int.mul_nonneg (show 0 ≤ -p by omega) (show 0 ≤ -(u - p) by omega)
    rwa [Int.neg_mul_neg] at this
/-- on a line, what lies in the one box lies in the other -/
theorem z_box2 {u1 u2 p1 p2 : Int} (hu : u1 ≠ 0) (hc : u1 * p2 = u2 * p1) (h : z_box p1 u1) : z_box p2 u2 := by
  apply z_box_of
  apply z_nn hu
  have e : u1 * u1 * (p2 * (u2 - p2)) = u2 * u2 * (p1 * (u1 - p1)) := by
    have e1 : u1 * u1 * (p2 * (u2 - p2)) = (u1 * p2) * (u1 * u2 - u1 * p2) := by grind
    have e2 : u2 * u2 * (p1 * (u1 - p1)) = (u2 * p1) * (u1 * u2 - u2 * p1) := by grind
    rw [e1, e2, hc]
  rw [e]
  rcases Int.lt_trichotomy u2 0 with q | q | q
  · exact Int.mul_nonneg (Int.le_of_lt (z_sq (by omega))) (z_of_box h)
  · rw [q]; simp
  · exact Int.mul_nonneg (Int.le_of_lt (z_sq (by omega))) (z_of_box h)
/-- the point P of the line along u: how the ends of u lie to a line along t through P -/
theorem z_key {u1 u2 p1 p2 t1 t2 : Int} (hc : u1 * p2 = u2 * p1) : u1 * (t1 * p2 - t2 * p1) = p1 * (t1 * u2 - t2 * u1) ∧ u2 * (t1 * p2 - t2 * p1) = p2 * (t1 * u2 - t2 * u1) := by
  constructor
  · have e : u1 * (t1 * p2 - t2 * p1) = t1 * (u1 * p2) - t2 * u1 * p1 := by grind
    rw [e, hc]; grind
  · have e : u2 * (t1 * p2 - t2 * p1) = t1 * u2 * p2 - t2 * (u2 * p1) := by grind
    rw [e, ← hc]; grind
theorem z_scale {u q k p : Int} (h : u * q = p * k) : u * u * (q * (k - q)) = k * k * (p * (u - p)) := by
  have e1 : u * u * (q * (k - q)) = (u * q) * (u * k - u * q) := by grind
  have e2 : k * k * (p * (u - p)) = (p * k) * (u * k - p * k) := by grind
  rw [e1, e2, h]
theorem z_in {u1 u2 p1 p2 t1 t2 : Int} (hu : u1 ≠ 0 ∨ u2 ≠ 0) (hc : u1 * p2 = u2 * p1) (h1 : z_box p1 u1) (h2 : z_box p2 u2) : 0 ≤ (t1 * p2 - t2 * p1) * ((t1 * u2 - t2 * u1) - (t1 * p2 - t2 * p1)) := by
  obtain ⟨e1, e2⟩ := z_key (t1 := t1) (t2 := t2) hc
  have hk : ∀ k : Int, 0 ≤ k * k := fun k => by
    by_cases q : k = 0
    · rw [q]; decide
    · exact Int.le_of_lt (z_sq q)
  rcases hu with hu | hu
  · apply z_nn hu
    rw [z_scale e1]
    exact Int.mul_nonneg (hk _) (z_of_box h1)
  · apply z_nn hu
    rw [z_scale e2]
    exact Int.mul_nonneg (hk _) (z_of_box h2)
theorem z_out {u1 u2 p1 p2 t1 t2 : Int} (hu : u1 ≠ 0 ∨ u2 ≠ 0) (hc : u1 * p2 = u2 * p1) (hk : t1 * u2 - t2 * u1 ≠ 0) (h : 0 ≤ (t1 * p2 - t2 * p1) * ((t1 * u2 - t2 * u1) - (t1 * p2 - t2 * p1))) : z_box p1 u1 ∧ z_box p2 u2 := by
  obtain ⟨e1, e2⟩ := z_key (t1 := t1) (t2 := t2) hc
  have f : ∀ u p : Int, u * (t1 * p2 - t2 * p1) = p * (t1 * u2 - t2 * u1) → z_box p u := by
    intro u p e
    apply z_box_of
    apply z_nn hk
    rw [← z_scale e]
    by_cases q : u = 0
    · rw [q]; simp
    · exact Int.mul_nonneg (Int.le_of_lt (z_sq q)) h
  exact ⟨f _ _ e1, f _ _ e2⟩
def z_side (a1 a2 b1 b2 x y : Int) : Int := (b1 - a1) * (y - a2) - (b2 - a2) * (x - a1)
/-- in the box of two places -/
def z_bx (a b x : Int) : Prop := (a ≤ x ∧ x ≤ b) ∨ (b ≤ x ∧ x ≤ a)
theorem z_bx_box {a b x : Int} : z_bx a b x ↔ z_box (x - a) (b - a) := by unfold z_bx z_box; omega
def z_on (a1 a2 b1 b2 x y : Int) : Prop := z_side a1 a2 b1 b2 x y = 0 ∧ z_bx a1 b1 x ∧ z_bx a2 b2 y
def z_end (a1 a2 b1 b2 x y : Int) : Prop := (a1 = x ∧ a2 = y) ∨ (b1 = x ∧ b2 = y)
theorem z_side0 {a1 a2 b1 b2 x y : Int} : z_side a1 a2 b1 b2 x y = 0 ↔ (b1 - a1) * (y - a2) = (b2 - a2) * (x - a1) := by unfold z_side; omega
/-- a place on one wall: the other wall's line parts that wall's ends, or goes through one -/
theorem z_on_sides {a1 a2 b1 b2 c1 c2 d1 d2 : Int} (hu : ¬ (a1 = b1 ∧ a2 = b2)) (h : z_on a1 a2 b1 b2 c1 c2) : z_side c1 c2 d1 d2 a1 a2 * z_side c1 c2 d1 d2 b1 b2 ≤ 0 := by
  obtain ⟨h0, h1, h2⟩ := h
  have k := z_in (u1 := b1 - a1) (u2 := b2 - a2) (p1 := c1 - a1) (p2 := c2 - a2) (t1 := d1 - c1) (t2 := d2 - c2) (by omega) (z_side0.mp h0) (z_bx_box.mp h1) (z_bx_box.mp h2)
  have e : z_side c1 c2 d1 d2 a1 a2 * z_side c1 c2 d1 d2 b1 b2 = -(((d1 - c1) * (c2 - a2) - (d2 - c2) * (c1 - a1)) * (((d1 - c1) * (b2 - a2) - (d2 - c2) * (b1 - a1)) - ((d1 - c1) * (c2 - a2) - (d2 - c2) * (c1 - a1)))) := by
    unfold z_side; grind
  rw [e]; omega
theorem z_sides_on {a1 a2 b1 b2 c1 c2 d1 d2 : Int} (hu : ¬ (a1 = b1 ∧ a2 = b2)) (h0 : z_side a1 a2 b1 b2 c1 c2 = 0) (hk : z_side a1 a2 b1 b2 d1 d2 ≠ 0) (h : z_side c1 c2 d1 d2 a1 a2 * z_side c1 c2 d1 d2 b1 b2 ≤ 0) : z_on a1 a2 b1 b2 c1 c2 := by
  have e : z_side c1 c2 d1 d2 a1 a2 * z_side c1 c2 d1 d2 b1 b2 = -(((d1 - c1) * (c2 - a2) - (d2 - c2) * (c1 - a1)) * (((d1 - c1) * (b2 - a2) - (d2 - c2) * (b1 - a1)) - ((d1 - c1) * (c2 - a2) - (d2 - c2) * (c1 - a1)))) := by
    unfold z_side; grind
  have e2 : (d1 - c1) * (b2 - a2) - (d2 - c2) * (b1 - a1) = z_side a1 a2 b1 b2 c1 c2 - z_side a1 a2 b1 b2 d1 d2 := by unfold z_side; grind
  have k := z_out (u1 := b1 - a1) (u2 := b2 - a2) (p1 := c1 - a1) (p2 := c2 - a2) (t1 := d1 - c1) (t2 := d2 - c2) (by omega) (z_side0.mp h0) (by rw [e2]; omega) (by rw [e] at h; omega)
  exact ⟨h0, z_bx_box.mpr k.1, z_bx_box.mpr k.2⟩
/-- the four sides -/
theorem z_four (a1 a2 b1 b2 c1 c2 d1 d2 : Int) : z_side a1 a2 b1 b2 d1 d2 - z_side a1 a2 b1 b2 c1 c2 = z_side c1 c2 d1 d2 a1 a2 - z_side c1 c2 d1 d2 b1 b2 := by unfold z_side; grind
theorem z_rev (a1 a2 b1 b2 x y : Int) : z_side b1 b2 a1 a2 x y = - z_side a1 a2 b1 b2 x y := by unfold z_side; grind
theorem z_self1 (a1 a2 b1 b2 : Int) : z_side a1 a2 b1 b2 a1 a2 = 0 := by unfold z_side; grind
theorem z_self2 (a1 a2 b1 b2 : Int) : z_side a1 a2 b1 b2 b1 b2 = 0 := by unfold z_side; grind
theorem z_bx_rev {a b x : Int} : z_bx b a x ↔ z_bx a b x := by unfold z_bx; omega
theorem z_on_rev {a1 a2 b1 b2 x y : Int} : z_on b1 b2 a1 a2 x y ↔ z_on a1 a2 b1 b2 x y := by
  unfold z_on; rw [z_rev, z_bx_rev (a := a1) (b := b1), z_bx_rev (a := a2) (b := b2)]
  constructor <;> (intro h; exact ⟨by omega, h.2⟩)
def z_len (a b c d : Int) : Int := min (max a b) (max c d) - max (min a b) (min c d)
def z_shares (a1 a2 b1 b2 c1 c2 d1 d2 : Int) : Prop := z_end c1 c2 d1 d2 a1 a2 ∨ z_end c1 c2 d1 d2 b1 b2
def z_same (a1 a2 b1 b2 c1 c2 d1 d2 : Int) : Prop := z_end c1 c2 d1 d2 a1 a2 ∧ z_end c1 c2 d1 d2 b1 b2
def z_lies (a1 a2 b1 b2 c1 c2 d1 d2 : Int) : Prop := (z_on a1 a2 b1 b2 c1 c2 ∧ ¬ z_end a1 a2 b1 b2 c1 c2) ∨ (z_on a1 a2 b1 b2 d1 d2 ∧ ¬ z_end a1 a2 b1 b2 d1 d2) ∨ (z_on c1 c2 d1 d2 a1 a2 ∧ ¬ z_end c1 c2 d1 d2 a1 a2) ∨ (z_on c1 c2 d1 d2 b1 b2 ∧ ¬ z_end c1 c2 d1 d2 b1 b2)
def z_opp (a b : Int) : Prop := (a < 0 ∧ 0 < b) ∨ (0 < a ∧ b < 0)
theorem z_opp_mul {a b : Int} (h : z_opp a b) : a * b ≤ 0 := by
  rcases h with ⟨h1, h2⟩ | ⟨h1, h2⟩
  · have := Int.mul_neg_of_pos_of_neg h2 h1
    rw [Int.mul_comm] at this; omega
  · have := Int.mul_neg_of_pos_of_neg h1 h2; omega
theorem z_mul_opp {a b : Int} (h : a * b ≤ 0) (ha : a ≠ 0) (hb : b ≠ 0) : z_opp a b := by
  unfold z_opp
  rcases Int.lt_or_gt_of_ne ha with h1 | h1 <;> rcases Int.lt_or_gt_of_ne hb with h2 | h2
  · have := Int.mul_pos (show 0 < -a by omega) (show 0 < -b by omega)
    rw [Int.neg_mul_neg] at this; omega
  · omega
  · omega
  · have := Int.mul_pos h1 h2; omega
/-- walls that are not on one line -/
theorem z_case2 {a1 a2 b1 b2 c1 c2 d1 d2 : Int} (hu : ¬ (a1 = b1 ∧ a2 = b2)) (ht : ¬ (c1 = d1 ∧ c2 = d2)) (hn : ¬ (z_side a1 a2 b1 b2 c1 c2 = 0 ∧ z_side a1 a2 b1 b2 d1 d2 = 0)) :
    (¬ z_shares a1 a2 b1 b2 c1 c2 d1 d2 ∧ z_side a1 a2 b1 b2 c1 c2 * z_side a1 a2 b1 b2 d1 d2 ≤ 0 ∧ z_side c1 c2 d1 d2 a1 a2 * z_side c1 c2 d1 d2 b1 b2 ≤ 0) ↔
    ((z_opp (z_side a1 a2 b1 b2 c1 c2) (z_side a1 a2 b1 b2 d1 d2) ∧ z_opp (z_side c1 c2 d1 d2 a1 a2) (z_side c1 c2 d1 d2 b1 b2)) ∨ z_same a1 a2 b1 b2 c1 c2 d1 d2 ∨ z_lies a1 a2 b1 b2 c1 c2 d1 d2) := by
  have four := z_four a1 a2 b1 b2 c1 c2 d1 d2
  have eAC : a1 = c1 → a2 = c2 → z_side a1 a2 b1 b2 c1 c2 = 0 := fun h1 h2 => by rw [← h1, ← h2]; exact z_self1 ..
  have eBC : b1 = c1 → b2 = c2 → z_side a1 a2 b1 b2 c1 c2 = 0 := fun h1 h2 => by rw [← h1, ← h2]; exact z_self2 ..
  have eAD : a1 = d1 → a2 = d2 → z_side a1 a2 b1 b2 d1 d2 = 0 := fun h1 h2 => by rw [← h1, ← h2]; exact z_self1 ..
  have eBD : b1 = d1 → b2 = d2 → z_side a1 a2 b1 b2 d1 d2 = 0 := fun h1 h2 => by rw [← h1, ← h2]; exact z_self2 ..
  have fAC : a1 = c1 → a2 = c2 → z_side c1 c2 d1 d2 a1 a2 = 0 := fun h1 h2 => by rw [h1, h2]; exact z_self1 ..
  have fAD : a1 = d1 → a2 = d2 → z_side c1 c2 d1 d2 a1 a2 = 0 := fun h1 h2 => by rw [h1, h2]; exact z_self2 ..
  have fBC : b1 = c1 → b2 = c2 → z_side c1 c2 d1 d2 b1 b2 = 0 := fun h1 h2 => by rw [h1, h2]; exact z_self1 ..
  have fBD : b1 = d1 → b2 = d2 → z_side c1 c2 d1 d2 b1 b2 = 0 := fun h1 h2 => by rw [h1, h2]; exact z_self2 ..
  constructor
  · rintro ⟨hs, hab, hcd⟩
    have hne : z_side a1 a2 b1 b2 c1 c2 ≠ z_side a1 a2 b1 b2 d1 d2 := by
      intro q
      rw [← q] at hab hn
      have z : z_side a1 a2 b1 b2 c1 c2 ≠ 0 := fun z => hn ⟨z, z⟩
      have := z_sq z
      omega
    by_cases ha : z_side a1 a2 b1 b2 c1 c2 = 0
    · right; right; left
      refine ⟨z_sides_on hu ha (by omega) hcd, ?_⟩
      intro q
      apply hs
      unfold z_end at q
      unfold z_shares z_end
      omega
    · by_cases hb : z_side a1 a2 b1 b2 d1 d2 = 0
      · right; right; right; left
        refine ⟨?_, ?_⟩
        · apply z_sides_on hu hb (d1 := c1) (d2 := c2) ha
          rw [z_rev c1 c2 d1 d2, z_rev c1 c2 d1 d2, Int.neg_mul_neg]
          exact hcd
        · intro q
          apply hs
          unfold z_end at q
          unfold z_shares z_end
          omega
      · by_cases hc : z_side c1 c2 d1 d2 a1 a2 = 0
        · right; right; right; right; left
          refine ⟨z_sides_on ht hc (by omega) hab, ?_⟩
          intro q
          apply hs
          unfold z_end at q
          unfold z_shares z_end
          omega
        · by_cases hd : z_side c1 c2 d1 d2 b1 b2 = 0
          · right; right; right; right; right
            refine ⟨?_, ?_⟩
            · apply z_sides_on ht hd (d1 := a1) (d2 := a2) hc
              rw [z_rev a1 a2 b1 b2, z_rev a1 a2 b1 b2, Int.neg_mul_neg]
              exact hab
            · intro q
              apply hs
              unfold z_end at q
              unfold z_shares z_end
              omega
          · left
            exact ⟨z_mul_opp hab ha hb, z_mul_opp hcd hc hd⟩
  · rintro (⟨h1, h2⟩ | h | h)
    · refine ⟨?_, z_opp_mul h1, z_opp_mul h2⟩
      intro q
      unfold z_shares z_end at q
      unfold z_opp at h1 h2
      rcases q with (⟨q1, q2⟩ | ⟨q1, q2⟩) | (⟨q1, q2⟩ | ⟨q1, q2⟩)
      · have := eAC q1.symm q2.symm; omega
      · have := eAD q1.symm q2.symm; omega
      · have := eBC q1.symm q2.symm; omega
      · have := eBD q1.symm q2.symm; omega
    · exfalso
      unfold z_same z_end at h
      rcases h with ⟨⟨q1, q2⟩ | ⟨q1, q2⟩, ⟨r1, r2⟩ | ⟨r1, r2⟩⟩
      · exact hu ⟨by omega, by omega⟩
      · exact hn ⟨eAC q1.symm q2.symm, eBD r1.symm r2.symm⟩
      · exact hn ⟨eBC r1.symm r2.symm, eAD q1.symm q2.symm⟩
      · exact hu ⟨by omega, by omega⟩
    · unfold z_lies at h
      rcases h with ⟨h, hq⟩ | ⟨h, hq⟩ | ⟨h, hq⟩ | ⟨h, hq⟩
      · have h0 := h.1
        refine ⟨?_, by rw [h0]; simp, z_on_sides hu h⟩
        intro q
        unfold z_shares z_end at q
        unfold z_end at hq
        rcases q with (⟨q1, q2⟩ | ⟨q1, q2⟩) | (⟨q1, q2⟩ | ⟨q1, q2⟩)
        · exact hq (Or.inl ⟨q1.symm, q2.symm⟩)
        · exact hn ⟨h0, eAD q1.symm q2.symm⟩
        · exact hq (Or.inr ⟨q1.symm, q2.symm⟩)
        · exact hn ⟨h0, eBD q1.symm q2.symm⟩
      · have h0 := h.1
        refine ⟨?_, by rw [h0]; simp, ?_⟩
        · intro q
          unfold z_shares z_end at q
          unfold z_end at hq
          rcases q with (⟨q1, q2⟩ | ⟨q1, q2⟩) | (⟨q1, q2⟩ | ⟨q1, q2⟩)
          · exact hn ⟨eAC q1.symm q2.symm, h0⟩
          · exact hq (Or.inl ⟨q1.symm, q2.symm⟩)
          · exact hn ⟨eBC q1.symm q2.symm, h0⟩
          · exact hq (Or.inr ⟨q1.symm, q2.symm⟩)
        · have := z_on_sides (d1 := c1) (d2 := c2) hu h
          rw [z_rev c1 c2 d1 d2, z_rev c1 c2 d1 d2, Int.neg_mul_neg] at this
          exact this
      · have h0 := h.1
        refine ⟨?_, z_on_sides ht h, by rw [h0]; simp⟩
        intro q
        unfold z_shares z_end at q
        unfold z_end at hq
        rcases q with (⟨q1, q2⟩ | ⟨q1, q2⟩) | (⟨q1, q2⟩ | ⟨q1, q2⟩)
        · exact hq (Or.inl ⟨q1, q2⟩)
        · exact hq (Or.inr ⟨q1, q2⟩)
        · have x1 := eBC q1.symm q2.symm
          have x2 := fBC q1.symm q2.symm
          exact hn ⟨x1, by omega⟩
        · have x1 := eBD q1.symm q2.symm
          have x2 := fBD q1.symm q2.symm
          exact hn ⟨by omega, x1⟩
      · have h0 := h.1
        refine ⟨?_, ?_, by rw [h0]; simp⟩
        · intro q
          unfold z_shares z_end at q
          unfold z_end at hq
          rcases q with (⟨q1, q2⟩ | ⟨q1, q2⟩) | (⟨q1, q2⟩ | ⟨q1, q2⟩)
          · have x1 := eAC q1.symm q2.symm
            have x2 := fAC q1.symm q2.symm
            exact hn ⟨x1, by omega⟩
          · have x1 := eAD q1.symm q2.symm
            have x2 := fAD q1.symm q2.symm
            exact hn ⟨by omega, x1⟩
          · exact hq (Or.inl ⟨q1, q2⟩)
          · exact hq (Or.inr ⟨q1, q2⟩)
        · have := z_on_sides (d1 := a1) (d2 := a2) ht h
          rw [z_rev a1 a2 b1 b2, z_rev a1 a2 b1 b2, Int.neg_mul_neg] at this
          exact this
/-- walls on one line, seen along one axis -/
def z_E (a b c d : Int) : Prop := ((a = c ∧ b = d) ∨ (a = d ∧ b = c)) ∨ (z_bx a b c ∧ c ≠ a ∧ c ≠ b) ∨ (z_bx a b d ∧ d ≠ a ∧ d ≠ b) ∨ (z_bx c d a ∧ a ≠ c ∧ a ≠ d) ∨ (z_bx c d b ∧ b ≠ c ∧ b ≠ d)
theorem z_len_E {a b c d : Int} (h1 : a ≠ b) (h2 : c ≠ d) : 0 < z_len a b c d ↔ z_E a b c d := by
  unfold z_len z_E z_bx; omega
def z_SL (a1 a2 b1 b2 c1 c2 d1 d2 : Int) : Prop := z_same a1 a2 b1 b2 c1 c2 d1 d2 ∨ ((z_bx a1 b1 c1 ∧ z_bx a2 b2 c2) ∧ ¬ z_end a1 a2 b1 b2 c1 c2) ∨ ((z_bx a1 b1 d1 ∧ z_bx a2 b2 d2) ∧ ¬ z_end a1 a2 b1 b2 d1 d2) ∨ ((z_bx c1 d1 a1 ∧ z_bx c2 d2 a2) ∧ ¬ z_end c1 c2 d1 d2 a1 a2) ∨ ((z_bx c1 d1 b1 ∧ z_bx c2 d2 b2) ∧ ¬ z_end c1 c2 d1 d2 b1 b2)
theorem z_can {u x y : Int} (hu : u ≠ 0) (h : u * x = u * y) : x = y := Int.eq_of_mul_eq_mul_left hu h
theorem z_proj {a1 a2 b1 b2 c1 c2 : Int} (hu : b1 - a1 ≠ 0) (hc : (b1 - a1) * (c2 - a2) = (b2 - a2) * (c1 - a1)) : (c1 = a1 → c2 = a2) ∧ (c1 = b1 → c2 = b2) ∧ (z_bx a1 b1 c1 → z_bx a2 b2 c2) := by
  refine ⟨?_, ?_, ?_⟩
  · intro h
    have e : (b1 - a1) * (c2 - a2) = (b1 - a1) * 0 := by rw [hc, h]; simp
    have := z_can hu e; omega
  · intro h
    have e : (b1 - a1) * (c2 - a2) = (b1 - a1) * (b2 - a2) := by rw [hc, h]; exact Int.mul_comm ..
    have := z_can hu e; omega
  · intro h
    exact z_bx_box.mpr (z_box2 hu hc (z_bx_box.mp h))
theorem z_LX {a1 a2 b1 b2 c1 c2 d1 d2 : Int} (hu : b1 - a1 ≠ 0) (hc : (b1 - a1) * (c2 - a2) = (b2 - a2) * (c1 - a1)) (hd : (b1 - a1) * (d2 - a2) = (b2 - a2) * (d1 - a1)) (ht : ¬ (c1 = d1 ∧ c2 = d2)) : 0 < z_len a1 b1 c1 d1 ↔ z_SL a1 a2 b1 b2 c1 c2 d1 d2 := by
  have ht1 : d1 - c1 ≠ 0 := by
    intro q
    have e : d1 = c1 := by omega
    rw [e] at hd
    have e2 : (b1 - a1) * (d2 - a2) = (b1 - a1) * (c2 - a2) := by rw [hd, hc]
    have := z_can hu e2
    exact ht ⟨by omega, by omega⟩
  have par : (b1 - a1) * (d2 - c2) = (b2 - a2) * (d1 - c1) := by grind
  have ca : (d1 - c1) * (a2 - c2) = (d2 - c2) * (a1 - c1) := by
    apply z_can hu
    have e1 : (b1 - a1) * ((d1 - c1) * (a2 - c2)) = -((d1 - c1) * ((b1 - a1) * (c2 - a2))) := by grind
    have e2 : (b1 - a1) * ((d2 - c2) * (a1 - c1)) = ((b1 - a1) * (d2 - c2)) * (a1 - c1) := by grind
    rw [e1, e2, hc, par]; grind
  have cb : (d1 - c1) * (b2 - c2) = (d2 - c2) * (b1 - c1) := by
    apply z_can hu
    have e1 : (b1 - a1) * ((d1 - c1) * (b2 - c2)) = (d1 - c1) * ((b1 - a1) * (b2 - a2) - (b1 - a1) * (c2 - a2)) := by grind
    have e2 : (b1 - a1) * ((d2 - c2) * (b1 - c1)) = ((b1 - a1) * (d2 - c2)) * (b1 - c1) := by grind
    rw [e1, e2, hc, par]; grind
  obtain ⟨pc1, pc2, pc3⟩ := z_proj hu hc
  obtain ⟨pd1, pd2, pd3⟩ := z_proj hu hd
  obtain ⟨pa1, pa2, pa3⟩ := z_proj ht1 ca
  obtain ⟨pb1, pb2, pb3⟩ := z_proj ht1 cb
  rw [z_len_E (by omega) (by omega)]
  unfold z_E z_SL z_same z_end
  constructor
  · rintro ((⟨h1, h2⟩ | ⟨h1, h2⟩) | ⟨h, h1, h2⟩ | ⟨h, h1, h2⟩ | ⟨h, h1, h2⟩ | ⟨h, h1, h2⟩)
    · left; exact ⟨Or.inl ⟨h1.symm, (pc1 h1.symm)⟩, Or.inr ⟨h2.symm, pd2 h2.symm⟩⟩
    · left; exact ⟨Or.inr ⟨h1.symm, (pd1 h1.symm)⟩, Or.inl ⟨h2.symm, pc2 h2.symm⟩⟩
    · right; left; exact ⟨⟨h, pc3 h⟩, by omega⟩
    · right; right; left; exact ⟨⟨h, pd3 h⟩, by omega⟩
    · right; right; right; left; exact ⟨⟨h, pa3 h⟩, by omega⟩
    · right; right; right; right; exact ⟨⟨h, pb3 h⟩, by omega⟩
  · rintro (⟨h1, h2⟩ | ⟨⟨h, h'⟩, g⟩ | ⟨⟨h, h'⟩, g⟩ | ⟨⟨h, h'⟩, g⟩ | ⟨⟨h, h'⟩, g⟩)
    · left; omega
    · right; left
      refine ⟨h, ?_, ?_⟩
      · intro q; exact g (Or.inl ⟨q.symm, (pc1 q).symm⟩)
      · intro q; exact g (Or.inr ⟨q.symm, (pc2 q).symm⟩)
    · right; right; left
      refine ⟨h, ?_, ?_⟩
      · intro q; exact g (Or.inl ⟨q.symm, (pd1 q).symm⟩)
      · intro q; exact g (Or.inr ⟨q.symm, (pd2 q).symm⟩)
    · right; right; right; left
      refine ⟨h, ?_, ?_⟩
      · intro q; exact g (Or.inl ⟨q.symm, (pa1 q).symm⟩)
      · intro q; exact g (Or.inr ⟨q.symm, (pa2 q).symm⟩)
    · right; right; right; right
      refine ⟨h, ?_, ?_⟩
      · intro q; exact g (Or.inl ⟨q.symm, (pb1 q).symm⟩)
      · intro q; exact g (Or.inr ⟨q.symm, (pb2 q).symm⟩)
theorem z_len0 {a c d : Int} (h1 : c = a) (h2 : d = a) : ¬ 0 < z_len a a c d := by unfold z_len; omega
theorem z_SL_swap {a1 a2 b1 b2 c1 c2 d1 d2 : Int} : z_SL a2 a1 b2 b1 c2 c1 d2 d1 ↔ z_SL a1 a2 b1 b2 c1 c2 d1 d2 := by
  have e : ∀ p1 p2 q1 q2 x y : Int, z_end p2 p1 q2 q1 y x ↔ z_end p1 p2 q1 q2 x y := by intros; unfold z_end; omega
  unfold z_SL z_same
  rw [e c1 c2 d1 d2 a1 a2, e c1 c2 d1 d2 b1 b2, e a1 a2 b1 b2 c1 c2, e a1 a2 b1 b2 d1 d2, And.comm (a := z_bx a2 b2 c2), And.comm (a := z_bx a2 b2 d2), And.comm (a := z_bx c2 d2 a2), And.comm (a := z_bx c2 d2 b2)]
theorem z_case1 {a1 a2 b1 b2 c1 c2 d1 d2 : Int} (hu : ¬ (a1 = b1 ∧ a2 = b2)) (ht : ¬ (c1 = d1 ∧ c2 = d2)) (h1 : z_side a1 a2 b1 b2 c1 c2 = 0) (h2 : z_side a1 a2 b1 b2 d1 d2 = 0) :
    (0 < z_len a1 b1 c1 d1 ∨ 0 < z_len a2 b2 c2 d2) ↔
    ((z_opp (z_side a1 a2 b1 b2 c1 c2) (z_side a1 a2 b1 b2 d1 d2) ∧ z_opp (z_side c1 c2 d1 d2 a1 a2) (z_side c1 c2 d1 d2 b1 b2)) ∨ z_same a1 a2 b1 b2 c1 c2 d1 d2 ∨ z_lies a1 a2 b1 b2 c1 c2 d1 d2) := by
  have four := z_four a1 a2 b1 b2 c1 c2 d1 d2
  have l1 := z_side0.mp h1
  have l2 := z_side0.mp h2
  have hc0 : z_side c1 c2 d1 d2 a1 a2 = 0 := by
    have key : ∀ u : Int, (u = b1 - a1 ∨ u = b2 - a2) → u * z_side c1 c2 d1 d2 a1 a2 = 0 := by
      intro u hu
      unfold z_side at h1 h2 ⊢
      rcases hu with hu | hu <;> subst hu <;> grind
    by_cases q : b1 - a1 = 0
    · exact (Int.mul_eq_zero.mp (key (b2 - a2) (Or.inr rfl))).resolve_left (by omega)
    · exact (Int.mul_eq_zero.mp (key (b1 - a1) (Or.inl rfl))).resolve_left q
  have hd0 : z_side c1 c2 d1 d2 b1 b2 = 0 := by omega
  have R : ((z_opp (z_side a1 a2 b1 b2 c1 c2) (z_side a1 a2 b1 b2 d1 d2) ∧ z_opp (z_side c1 c2 d1 d2 a1 a2) (z_side c1 c2 d1 d2 b1 b2)) ∨ z_same a1 a2 b1 b2 c1 c2 d1 d2 ∨ z_lies a1 a2 b1 b2 c1 c2 d1 d2) ↔ z_SL a1 a2 b1 b2 c1 c2 d1 d2 := by
    unfold z_SL z_lies z_on z_opp
    rw [h1, h2, hc0, hd0]
    simp
  rw [R]
  by_cases q1 : b1 - a1 = 0
  · have q2 : b2 - a2 ≠ 0 := by omega
    have e1 : c1 = a1 := by
      have e : (b2 - a2) * (c1 - a1) = (b2 - a2) * 0 := by rw [← l1, q1]; simp
      have := z_can q2 e; omega
    have e2 : d1 = a1 := by
      have e : (b2 - a2) * (d1 - a1) = (b2 - a2) * 0 := by rw [← l2, q1]; simp
      have := z_can q2 e; omega
    have e3 : b1 = a1 := by omega
    have n1 : ¬ 0 < z_len a1 b1 c1 d1 := by rw [e3]; exact z_len0 e1 e2
    have y := z_LX (a1 := a2) (a2 := a1) (b1 := b2) (b2 := b1) (c1 := c2) (c2 := c1) (d1 := d2) (d2 := d1) q2 l1.symm l2.symm (by omega)
    rw [← z_SL_swap, ← y]
    constructor
    · intro h; exact h.resolve_left n1
    · intro h; exact Or.inr h
  · have x := z_LX q1 l1 l2 ht
    by_cases q2 : b2 - a2 = 0
    · have e1 : c2 = a2 := by
        have e : (b1 - a1) * (c2 - a2) = (b1 - a1) * 0 := by rw [l1, q2]; simp
        have := z_can q1 e; omega
      have e2 : d2 = a2 := by
        have e : (b1 - a1) * (d2 - a2) = (b1 - a1) * 0 := by rw [l2, q2]; simp
        have := z_can q1 e; omega
      have e3 : b2 = a2 := by omega
      have n2 : ¬ 0 < z_len a2 b2 c2 d2 := by rw [e3]; exact z_len0 e1 e2
      rw [← x]
      constructor
      · intro h; exact h.resolve_right n2
      · intro h; exact Or.inl h
    · have y := z_LX (a1 := a2) (a2 := a1) (b1 := b2) (b2 := b1) (c1 := c2) (c2 := c1) (d1 := d2) (d2 := d1) q2 l1.symm l2.symm (by omega)
      rw [z_SL_swap] at y
      rw [x, y]
      simp
end
section
/-! From machine numbers to whole numbers, and back: class and reference say the same. -/
theorem z_sub {x y : Int32} {m n : Int} (hx : ok_c x m) (hy : ok_c y n) (hm : m ≤ 1000000) (hn : n ≤ 1000000) : (x - y).toInt64.toInt = x.toInt - y.toInt := by
  obtain ⟨a, b⟩ := hx
  obtain ⟨c, d⟩ := hy
  rw [Int32.toInt_toInt64, Int32.toInt_sub]
  exact Int.bmod_eq_of_le_mul_two (by show -(4294967296 : Int) ≤ _; omega) (by show _ < (4294967296 : Int); omega)
theorem z_mul {x y : Int64} {M N : Int} (hx : -M ≤ x.toInt ∧ x.toInt ≤ M) (hy : -N ≤ y.toInt ∧ y.toInt ≤ N) (h : M * N ≤ 4000000000000000000) : (x * y).toInt = x.toInt * y.toInt := by
  have hb := z_b hx hy
  rw [Int64.toInt_mul]
  exact Int.bmod_eq_of_le_mul_two (by show -(18446744073709551616 : Int) ≤ _; omega) (by show _ < (18446744073709551616 : Int); omega)
theorem z_sub64 {x y : Int64} {M N : Int} (hx : -M ≤ x.toInt ∧ x.toInt ≤ M) (hy : -N ≤ y.toInt ∧ y.toInt ≤ N) (h : M + N ≤ 4000000000000000000) : (x - y).toInt = x.toInt - y.toInt := by
  rw [Int64.toInt_sub]
  exact Int.bmod_eq_of_le_mul_two (by show -(18446744073709551616 : Int) ≤ _; omega) (by show _ < (18446744073709551616 : Int); omega)
theorem z_neg64 {x : Int64} {M : Int} (hx : -M ≤ x.toInt ∧ x.toInt ≤ M) (h : M ≤ 4000000000000000000) : (-x).toInt = -x.toInt := by
  rw [Int64.toInt_neg]
  exact Int.bmod_eq_of_le_mul_two (by show -(18446744073709551616 : Int) ≤ _; omega) (by show _ < (18446744073709551616 : Int); omega)
theorem z_cross {p q r s : Int64} {M N : Int} (hp : -M ≤ p.toInt ∧ p.toInt ≤ M) (hq : -M ≤ q.toInt ∧ q.toInt ≤ M) (hr : -N ≤ r.toInt ∧ r.toInt ≤ N) (hs : -N ≤ s.toInt ∧ s.toInt ≤ N) (h : M * N ≤ 1000000000000000000) : (m_cross p q r s).toInt = p.toInt * s.toInt - q.toInt * r.toInt ∧ -(2 * (M * N)) ≤ (m_cross p q r s).toInt ∧ (m_cross p q r s).toInt ≤ 2 * (M * N) := by
  have e1 := z_mul hp hs (by omega)
  have e2 := z_mul hq hr (by omega)
  have b1 := z_b hp hs
  have b2 := z_b hq hr
  have e : (m_cross p q r s).toInt = p.toInt * s.toInt - q.toInt * r.toInt := by
    unfold m_cross
    rw [z_sub64 (M := M * N) (N := M * N) (by rw [e1]; exact b1) (by rw [e2]; exact b2) (by omega), e1, e2]
  rw [e]
  exact ⟨rfl, by omega, by omega⟩
theorem c_sub {x y : Int32} {m n : Int} (hx : ok_c x m) (hy : ok_c y n) (hm : m ≤ 1000000) (hn : n ≤ 1000000) : -(m + n) ≤ (x - y).toInt64.toInt ∧ (x - y).toInt64.toInt ≤ m + n := by
  rw [z_sub hx hy hm hn]
  obtain ⟨a, b⟩ := hx
  obtain ⟨c, d⟩ := hy
  constructor <;> omega
def ok_q (w : Q4) : Prop := ok_c w.1 2000 ∧ ok_c w.2.1 2000 ∧ ok_c w.2.2.1 2000 ∧ ok_c w.2.2.2 2000
theorem ok_w.q {w : Q4} (h : ok_w w) : ok_q w := ⟨h.1, h.2.1, h.2.2.1, h.2.2.2.1⟩
theorem ok_c.up {x : Int32} {m n : Int} (h : ok_c x m) (hmn : m ≤ n) : ok_c x n := ⟨by have := h.1; omega, by have := h.2; omega⟩
theorem side_z {w : Q4} {x y : Int32} (hw : ok_q w) (hx : ok_c x 4000) (hy : ok_c y 4000) : (m_side w x y).toInt = z_side w.1.toInt w.2.1.toInt w.2.2.1.toInt w.2.2.2.toInt x.toInt y.toInt ∧ -48000000 ≤ (m_side w x y).toInt ∧ (m_side w x y).toInt ≤ 48000000 := by
  obtain ⟨h1, h2, h3, h4⟩ := hw
  have k := z_cross (M := 4000) (N := 6000) (c_sub h3 h1 (by omega) (by omega)) (c_sub h4 h2 (by omega) (by omega)) (c_sub hx h1 (by omega) (by omega)) (c_sub hy h2 (by omega) (by omega)) (by omega)
  rw [z_sub h3 h1 (by omega) (by omega), z_sub h4 h2 (by omega) (by omega), z_sub hx h1 (by omega) (by omega), z_sub hy h2 (by omega) (by omega)] at k
  exact ⟨k.1, by have := k.2.1; unfold m_side; omega, by have := k.2.2; unfold m_side; omega⟩
theorem z_eq0 {x : Int64} : x = 0 ↔ x.toInt = 0 := by
  rw [← Int64.toInt_inj, Int64.toInt_zero]
theorem z_lt0 {x : Int64} : x < 0 ↔ x.toInt < 0 := by rw [Int64.lt_iff_toInt_lt, Int64.toInt_zero]
theorem z_gt0 {x : Int64} : 0 < x ↔ 0 < x.toInt := by rw [Int64.lt_iff_toInt_lt, Int64.toInt_zero]
theorem z_le0 {x : Int64} : x ≤ 0 ↔ x.toInt ≤ 0 := by rw [Int64.le_iff_toInt_le, Int64.toInt_zero]
theorem z_gt0' {x : Int32} : 0 < x ↔ 0 < x.toInt := by rw [Int32.lt_iff_toInt_lt, Int32.toInt_zero]
theorem m_min_z (x y : Int32) : (m_min x y).toInt = min x.toInt y.toInt := by
  unfold m_min
  by_cases h : y < x
  · rw [if_pos h]; rw [Int32.lt_iff_toInt_lt] at h; omega
  · rw [if_neg h]; rw [Int32.lt_iff_toInt_lt] at h; omega
theorem m_max_z (x y : Int32) : (m_max x y).toInt = max x.toInt y.toInt := by
  unfold m_max
  by_cases h : x < y
  · rw [if_pos h]; rw [Int32.lt_iff_toInt_lt] at h; omega
  · rw [if_neg h]; rw [Int32.lt_iff_toInt_lt] at h; omega
theorem k_lo_min (x y : Int32) : k_lo x y = m_min x y := by
  apply Int32.toInt_inj.mp
  rw [m_min_z]
  unfold k_lo
  by_cases h : x < y
  · rw [if_pos h]; rw [Int32.lt_iff_toInt_lt] at h; omega
  · rw [if_neg h]; rw [Int32.lt_iff_toInt_lt] at h; omega
theorem k_hi_max (x y : Int32) : k_hi x y = m_max x y := rfl
theorem m_cov_on (w : Q4) (x y : Int32) : m_cov w x y ↔ k_on w x y := by
  unfold m_cov k_on m_btw
  rw [k_lo_min, k_lo_min, k_hi_max, k_hi_max]
  constructor
  · rintro ⟨h1, ⟨h2, h3⟩, h4, h5⟩; exact ⟨h1, h2, h3, h4, h5⟩
  · rintro ⟨h1, h2, h3, h4, h5⟩; exact ⟨h1, ⟨h2, h3⟩, h4, h5⟩
theorem m_len_z {a b c d : Int32} (ha : ok_c a 2000) (hb : ok_c b 2000) (hc : ok_c c 2000) (hd : ok_c d 2000) : 0 < m_len a b c d ↔ 0 < z_len a.toInt b.toInt c.toInt d.toInt := by
  have k1 : (m_min (m_max a b) (m_max c d)).toInt = min (max a.toInt b.toInt) (max c.toInt d.toInt) := by rw [m_min_z, m_max_z, m_max_z]
  have k2 : (m_max (m_min a b) (m_min c d)).toInt = max (min a.toInt b.toInt) (min c.toInt d.toInt) := by rw [m_max_z, m_min_z, m_min_z]
  have o1 : ok_c (m_min (m_max a b) (m_max c d)) 2000 := by
    unfold ok_c at *; rw [k1]; omega
  have o2 : ok_c (m_max (m_min a b) (m_min c d)) 2000 := by
    unfold ok_c at *; rw [k2]; omega
  have k3 := z_sub o1 o2 (by omega) (by omega)
  rw [Int32.toInt_toInt64] at k3
  rw [z_gt0']
  unfold m_len z_len
  rw [k3, k1, k2]
theorem k_on_z {w : Q4} {x y : Int32} (hw : ok_q w) (hx : ok_c x 4000) (hy : ok_c y 4000) : k_on w x y ↔ z_on w.1.toInt w.2.1.toInt w.2.2.1.toInt w.2.2.2.toInt x.toInt y.toInt := by
  unfold k_on z_on z_bx
  rw [z_eq0, (side_z hw hx hy).1, k_lo_min, k_lo_min, k_hi_max, k_hi_max, Int32.le_iff_toInt_le, Int32.le_iff_toInt_le, Int32.le_iff_toInt_le, Int32.le_iff_toInt_le, m_min_z, m_min_z, m_max_z, m_max_z]
  constructor
  · rintro ⟨h1, h2, h3, h4, h5⟩; exact ⟨h1, by omega, by omega⟩
  · rintro ⟨h1, h2, h3⟩; exact ⟨h1, by omega, by omega, by omega, by omega⟩
theorem k_end_z {w : Q4} {x y : Int32} : k_end w x y ↔ z_end w.1.toInt w.2.1.toInt w.2.2.1.toInt w.2.2.2.toInt x.toInt y.toInt := by
  unfold k_end z_end
  rw [Int32.toInt_inj, Int32.toInt_inj, Int32.toInt_inj, Int32.toInt_inj]
theorem m_end_k {w : Q4} {x y : Int32} : m_end w x y ↔ k_end w x y := by
  unfold m_end k_end
  constructor
  · rintro (⟨h1, h2⟩ | ⟨h1, h2⟩)
    · exact Or.inl ⟨h1.symm, h2.symm⟩
    · exact Or.inr ⟨h1.symm, h2.symm⟩
  · rintro (⟨h1, h2⟩ | ⟨h1, h2⟩)
    · exact Or.inl ⟨h1.symm, h2.symm⟩
    · exact Or.inr ⟨h1.symm, h2.symm⟩
theorem k_opp_z {a b : Int64} : k_opp a b ↔ z_opp a.toInt b.toInt := by
  unfold k_opp z_opp
  rw [z_lt0, z_gt0, z_gt0, z_lt0]
theorem z_mul0 {a b : Int64} (ha : -48000000 ≤ a.toInt ∧ a.toInt ≤ 48000000) (hb : -48000000 ≤ b.toInt ∧ b.toInt ≤ 48000000) : a * b ≤ 0 ↔ a.toInt * b.toInt ≤ 0 := by
  rw [z_le0, z_mul ha hb (by omega)]
theorem ok_ne {w : Q4} (h : ok_w w) : ¬ (w.1.toInt = w.2.2.1.toInt ∧ w.2.1.toInt = w.2.2.2.toInt) := by
  rw [Int32.toInt_inj, Int32.toInt_inj]; exact h.2.2.2.2
/-- two walls clash for the class just where the reference finds them not apart -/
theorem p_clash {v w : Q4} (hv : ok_w v) (hw : ok_w w) : m_clash v w ↔ ¬ k_apart v w := by
  have q1 := hv.q
  have q2 := hw.q
  have up : ∀ {x : Int32}, ok_c x 2000 → ok_c x 4000 := fun h => h.up (by omega)
  have sA := side_z q1 (up q2.1) (up q2.2.1)
  have sB := side_z q1 (up q2.2.2.1) (up q2.2.2.2)
  have sC := side_z q2 (up q1.1) (up q1.2.1)
  have sD := side_z q2 (up q1.2.2.1) (up q1.2.2.2)
  have nap : ¬ k_apart v w ↔ (k_cuts v w ∨ k_same v w ∨ k_lies v w) := by
    unfold k_apart
    constructor
    · intro h
      by_cases a : k_cuts v w
      · exact Or.inl a
      · by_cases b : k_same v w
        · exact Or.inr (Or.inl b)
        · by_cases c : k_lies v w
          · exact Or.inr (Or.inr c)
          · exact absurd ⟨a, b, c⟩ h
    · rintro (h | h | h) ⟨a, b, c⟩
      · exact a h
      · exact b h
      · exact c h
  rw [nap]
  have R : (k_cuts v w ∨ k_same v w ∨ k_lies v w) ↔ ((z_opp (z_side v.1.toInt v.2.1.toInt v.2.2.1.toInt v.2.2.2.toInt w.1.toInt w.2.1.toInt) (z_side v.1.toInt v.2.1.toInt v.2.2.1.toInt v.2.2.2.toInt w.2.2.1.toInt w.2.2.2.toInt) ∧ z_opp (z_side w.1.toInt w.2.1.toInt w.2.2.1.toInt w.2.2.2.toInt v.1.toInt v.2.1.toInt) (z_side w.1.toInt w.2.1.toInt w.2.2.1.toInt w.2.2.2.toInt v.2.2.1.toInt v.2.2.2.toInt)) ∨ z_same v.1.toInt v.2.1.toInt v.2.2.1.toInt v.2.2.2.toInt w.1.toInt w.2.1.toInt w.2.2.1.toInt w.2.2.2.toInt ∨ z_lies v.1.toInt v.2.1.toInt v.2.2.1.toInt v.2.2.2.toInt w.1.toInt w.2.1.toInt w.2.2.1.toInt w.2.2.2.toInt) := by
    unfold k_cuts k_same k_lies z_same z_lies
    rw [k_opp_z, k_opp_z, sA.1, sB.1, sC.1, sD.1, k_end_z, k_end_z, k_end_z, k_end_z, k_on_z q1 (up q2.1) (up q2.2.1), k_on_z q1 (up q2.2.2.1) (up q2.2.2.2), k_on_z q2 (up q1.1) (up q1.2.1), k_on_z q2 (up q1.2.2.1) (up q1.2.2.2)]
  rw [R]
  unfold m_clash m_shares m_ovl
  rw [m_end_k, m_end_k, k_end_z, k_end_z, z_mul0 sA.2 sB.2, z_mul0 sC.2 sD.2, z_eq0, z_eq0, sA.1, sB.1, sC.1, sD.1, m_len_z q1.1 q1.2.2.1 q2.1 q2.2.2.1, m_len_z q1.2.1 q1.2.2.2 q2.2.1 q2.2.2.2]
  by_cases h : z_side v.1.toInt v.2.1.toInt v.2.2.1.toInt v.2.2.2.toInt w.1.toInt w.2.1.toInt = 0 ∧ z_side v.1.toInt v.2.1.toInt v.2.2.1.toInt v.2.2.2.toInt w.2.2.1.toInt w.2.2.2.toInt = 0
  · rw [← z_case1 (ok_ne hv) (ok_ne hw) h.1 h.2]
    constructor
    · rintro (⟨_, k⟩ | ⟨k, _⟩)
      · exact k
      · exact absurd h k
    · intro k; exact Or.inl ⟨h, k⟩
  · rw [← z_case2 (ok_ne hv) (ok_ne hw) h]
    unfold z_shares
    constructor
    · rintro (⟨k, _⟩ | ⟨_, k⟩)
      · exact absurd k h
      · exact k
    · intro k; exact Or.inr ⟨h, k⟩
theorem rside_z {r : Q4} {x y : Int32} (hr : ok_r r) (hx : ok_c x 2000) (hy : ok_c y 2000) : (m_rside r x y).toInt = r.2.2.1.toInt * (y.toInt - r.2.1.toInt) - r.2.2.2.toInt * (x.toInt - r.1.toInt) ∧ -240000000 ≤ (m_rside r x y).toInt ∧ (m_rside r x y).toInt ≤ 240000000 := by
  obtain ⟨h1, h2, h3, h4⟩ := hr
  have k := z_cross (M := 20000) (N := 6000) (p := r.2.2.1.toInt64) (q := r.2.2.2.toInt64) (by rw [Int32.toInt_toInt64]; exact h3) (by rw [Int32.toInt_toInt64]; exact h4) (c_sub hx h1 (by omega) (by omega)) (c_sub hy h2 (by omega) (by omega)) (by omega)
  rw [z_sub hx h1 (by omega) (by omega), z_sub hy h2 (by omega) (by omega), Int32.toInt_toInt64, Int32.toInt_toInt64] at k
  exact ⟨k.1, by have := k.2.1; unfold m_rside; omega, by have := k.2.2; unfold m_rside; omega⟩
theorem p0_z {w r : Q4} (hw : ok_q w) (hr : ok_r r) : k_p0 w r = m_p w r := by
  obtain ⟨h1, h2, h3, h4⟩ := hw
  have k := z_cross (M := 6000) (N := 4000) (c_sub h1 hr.1 (by omega) (by omega)) (c_sub h2 hr.2.1 (by omega) (by omega)) (c_sub h3 h1 (by omega) (by omega)) (c_sub h4 h2 (by omega) (by omega)) (by omega)
  rw [z_sub h3 h1 (by omega) (by omega), z_sub h4 h2 (by omega) (by omega), z_sub h1 hr.1 (by omega) (by omega), z_sub h2 hr.2.1 (by omega) (by omega)] at k
  have s := side_z (w := w) ⟨h1, h2, h3, h4⟩ hr.1 hr.2.1
  apply Int64.toInt_inj.mp
  unfold k_p0 m_p
  rw [k.1, s.1]
  unfold z_side
  grind
/-- a wall and a ray within their limits: what is met, how far, from which side: one answer -/
theorem p_met {w r : Q4} (hw : ok_q w) (hr : ok_r r) : m_met w r ↔ k_met w r := by
  have e := p0_z hw hr
  have s := side_z hw hr.1 hr.2.1
  have sp : -48000000 ≤ (m_p w r).toInt ∧ (m_p w r).toInt ≤ 48000000 := s.2
  unfold m_met k_met k_up
  rw [e]
  constructor
  · rintro ⟨h1, h2, h3⟩
    refine ⟨h1, ?_⟩
    by_cases q : m_q w r < 0
    · rw [if_pos q, z_gt0, z_neg64 sp (by omega)]
      have := z_lt0.mp (h3.mpr q); omega
    · rw [if_neg q, z_gt0]
      have a : ¬ (m_p w r).toInt < 0 := fun z => q (h3.mp (z_lt0.mpr z))
      have b : ¬ (m_p w r).toInt = 0 := fun z => h2 (z_eq0.mpr z)
      omega
  · rintro ⟨h1, h2⟩
    refine ⟨h1, ?_⟩
    by_cases q : m_q w r < 0
    · rw [if_pos q, z_gt0, z_neg64 sp (by omega)] at h2
      refine ⟨fun z => ?_, fun _ => q, fun _ => z_lt0.mpr (by omega)⟩
      have := z_eq0.mp z; omega
    · rw [if_neg q, z_gt0] at h2
      refine ⟨fun z => ?_, fun z => ?_, fun z => absurd z q⟩
      · have := z_eq0.mp z; omega
      · have := z_lt0.mp z; omega
theorem q_z {w r : Q4} (hw : ok_q w) (hr : ok_r r) : (m_q w r).toInt = (m_b w r).toInt - (m_a w r).toInt ∧ -480000000 ≤ (m_q w r).toInt ∧ (m_q w r).toInt ≤ 480000000 ∧ (-240000000 ≤ (m_a w r).toInt ∧ (m_a w r).toInt ≤ 240000000) ∧ (-240000000 ≤ (m_b w r).toInt ∧ (m_b w r).toInt ≤ 240000000) := by
  have a := (rside_z hr hw.1 hw.2.1).2
  have b := (rside_z hr hw.2.2.1 hw.2.2.2).2
  have a' : -240000000 ≤ (m_a w r).toInt ∧ (m_a w r).toInt ≤ 240000000 := a
  have b' : -240000000 ≤ (m_b w r).toInt ∧ (m_b w r).toInt ≤ 240000000 := b
  have e : (m_q w r).toInt = (m_b w r).toInt - (m_a w r).toInt := z_sub64 b' a' (by omega)
  exact ⟨e, by omega, by omega, a', b'⟩
theorem p_vals {w r : Q4} (hw : ok_q w) (hr : ok_r r) (h : m_met w r) : m_abs (m_p w r) = k_up w r ∧ m_abs (m_q w r) = k_dn w r ∧ 0 < k_dn w r ∧ (m_p w r < 0 ↔ k_p0 w r < 0) := by
  have e := p0_z hw hr
  have s := side_z hw hr.1 hr.2.1
  have sp : -48000000 ≤ (m_p w r).toInt ∧ (m_p w r).toInt ≤ 48000000 := s.2
  obtain ⟨qe, q1, q2, qa, qb⟩ := q_z hw hr
  obtain ⟨h1, h2, h3⟩ := h
  have nz : ¬ (m_q w r).toInt = 0 := by
    intro z
    apply h1
    rw [z_lt0, z_lt0]
    constructor <;> (intro _; omega)
  unfold m_abs k_up k_dn
  rw [e]
  by_cases q : m_q w r < 0
  · have pn := h3.mpr q
    have n1 : ¬ 0 < m_p w r := by rw [z_gt0]; have := z_lt0.mp pn; omega
    have n2 : ¬ 0 < m_q w r := by rw [z_gt0]; have := z_lt0.mp q; omega
    rw [if_pos q, if_pos q, if_neg n1, if_neg n2]
    refine ⟨rfl, rfl, ?_, Iff.rfl⟩
    rw [z_gt0, z_neg64 (M := 480000000) ⟨q1, q2⟩ (by omega)]
    have := z_lt0.mp q; omega
  · have q' : ¬ (m_q w r).toInt < 0 := fun z => q (z_lt0.mpr z)
    have a : ¬ (m_p w r).toInt < 0 := fun z => q (h3.mp (z_lt0.mpr z))
    have b : ¬ (m_p w r).toInt = 0 := fun z => h2 (z_eq0.mpr z)
    have n1 : 0 < m_p w r := by rw [z_gt0]; omega
    have n2 : 0 < m_q w r := by rw [z_gt0]; omega
    rw [if_neg q, if_neg q, if_pos n1, if_pos n2]
    exact ⟨rfl, rfl, n2, Iff.rfl⟩
end
section
/-! The class's cells, and what they say. -/
abbrev e_W (w : Q4) : va_E := .inr (0, [.int w.1, .int w.2.1, .int w.2.2.1, .int w.2.2.2])
abbrev e_R (w : Q4) : va_E := .inr (1, [.int w.1, .int w.2.1, .int w.2.2.1, .int w.2.2.2])
abbrev e_M (n fr : Int32) (ds ad dv : Int64) : va_E := .inr (2, [.int n, .int fr, .long ds, .long ad, .long dv])
abbrev e_F (wa ma : Nat) (wc mc : Int32) (ry : Option Nat) : va_E := .inr (3, [.ref wa, .int wc, va_rf ry, .ref ma, .int mc])
abbrev e_Q (c : ClassId) (f : Nat → Option Nat) : va_E := .inl (c, 64, .inr (.inr (.inr (.inr f))))
abbrev x_3 (x wa ma : Nat) (wc mc : Int32) (ry : Option Nat) (cW cM : ClassId) (wf mf : Nat → Option Nat) : va_W := [(x, e_F wa ma wc mc ry), (wa, e_Q cW wf), (ma, e_Q cM mf)]
abbrev x_t (cW cM : ClassId) : List (ClassId × FieldType) := [(cW, .object "RayField$Wall"), (cM, .object "RayField$Meeting")]
abbrev e_Mw (k : Nat) (w r : Q4) : va_E := e_M (nI k) (m_fr w r) (m_abs (m_p w r)) (m_abs (m_a w r)) (m_abs (m_q w r))
/-- the walls' array holds the walls wl -/
def rf_walls (L : List Nat) (f : Nat → va_E) (wf : Nat → Option Nat) (wl : Nat → Option Q4) : Prop :=
  (∀ k, k < 64 → (wf k = none ∧ wl k = none) ∨ ∃ q w, wf k = some q ∧ wl k = some w ∧ q ∈ L ∧ f q = e_W w) ∧ (∀ i j q, i < 64 → j < 64 → wf i = some q → wf j = some q → i = j)
/-- the first n of the meetings are those of the walls g 0, g 1 .. with the ray r -/
def rf_meets (L : List Nat) (f : Nat → va_E) (mf : Nat → Option Nat) (wl : Nat → Option Q4) (r : Q4) (n : Nat) (g : Nat → Nat) : Prop :=
  ∀ j, j < n → ∃ q w, mf j = some q ∧ q ∈ L ∧ wl (g j) = some w ∧ f q = e_Mw (g j) w r
/-- the meetings' array holds meetings, each once -/
def rf_mpool (L : List Nat) (f : Nat → va_E) (mf : Nat → Option Nat) : Prop :=
  (∀ j q, j < 64 → mf j = some q → q ∈ L ∧ ∃ n fr ds ad dv, f q = e_M n fr ds ad dv) ∧ (∀ i j q, i < 64 → j < 64 → mf i = some q → mf j = some q → i = j)
theorem rf_walls.non {L : List Nat} {f : Nat → va_E} {wf : Nat → Option Nat} {wl : Nat → Option Q4} (h : rf_walls L f wf wl) {k : Nat} (hk : k < 64) (e : wf k = none) : wl k = none := by
  rcases h.1 k hk with ⟨_, h1⟩ | ⟨q, w, h1, _⟩
  · exact h1
  · rw [e] at h1; cases h1
theorem rf_walls.get {L : List Nat} {f : Nat → va_E} {wf : Nat → Option Nat} {wl : Nat → Option Q4} (h : rf_walls L f wf wl) {k q : Nat} (hk : k < 64) (e : wf k = some q) : ∃ w, wl k = some w ∧ q ∈ L ∧ f q = e_W w := by
  rcases h.1 k hk with ⟨h1, _⟩ | ⟨q', w, h1, h2, h3, h4⟩
  · rw [e] at h1; cases h1
  · rw [e] at h1; cases h1; exact ⟨w, h2, h3, h4⟩
theorem rf_walls.iff {L : List Nat} {f : Nat → va_E} {wf : Nat → Option Nat} {wl : Nat → Option Q4} (h : rf_walls L f wf wl) {k : Nat} (hk : k < 64) : wf k = none ↔ wl k = none := by
  constructor
  · exact h.non hk
  · intro e
    rcases h.1 k hk with ⟨h1, _⟩ | ⟨q, w, _, h2, _⟩
    · exact h1
    · rw [e] at h2; cases h2
theorem rf_mt_some {L : List Nat} {f : Nat → va_E} {mf : Nat → Option Nat} {wl : Nat → Option Q4} {r : Q4} {n : Nat} {g : Nat → Nat} {i : Int32} {o : Option Nat} {q : Nat} (hM : rf_meets L f mf wl r n g) (h : (∃ k, k < n ∧ i = nI k ∧ o = mf k) ∨ ((∀ k, k < n → ¬ i = nI k) ∧ o = none)) (e : o = some q) : ∃ k w, k < n ∧ i = nI k ∧ q ∈ L ∧ wl (g k) = some w ∧ f q = e_Mw (g k) w r := by
  rcases h with ⟨k, hk, ek, h1⟩ | ⟨_, h1⟩
  · obtain ⟨q', w, a1, a2, a3, a4⟩ := hM k hk
    rw [e, a1] at h1
    cases h1
    exact ⟨k, w, hk, ek, a2, a3, a4⟩
  · rw [e] at h1; cases h1
theorem rf_mt_none {L : List Nat} {f : Nat → va_E} {mf : Nat → Option Nat} {wl : Nat → Option Q4} {r : Q4} {n : Nat} {g : Nat → Nat} {i : Int32} {o : Option Nat} (hM : rf_meets L f mf wl r n g) (h : (∃ k, k < n ∧ i = nI k ∧ o = mf k) ∨ ((∀ k, k < n → ¬ i = nI k) ∧ o = none)) (e : o = none) : ∀ k, k < n → ¬ i = nI k := by
  rcases h with ⟨k, hk, ek, h1⟩ | ⟨h1, _⟩
  · obtain ⟨q', w, a1, _⟩ := hM k hk
    rw [e, a1] at h1
    cases h1
  · exact h1
theorem m_fr_t {w r : Q4} (h : ¬ m_fr w r = 0) : m_p w r < 0 := by
  unfold m_fr at h
  by_cases q : m_p w r < 0
  · exact q
  · rw [if_neg q] at h; exact absurd rfl h
theorem m_fr_f {w r : Q4} (h : m_fr w r = 0) : ¬ m_p w r < 0 := by
  intro q
  unfold m_fr at h
  rw [if_pos q] at h
  exact absurd h (by decide)
theorem nI_inj {a b : Nat} (ha : a < 2 ^ 31) (hb : b < 2 ^ 31) (h : nI a = nI b) : a = b := (nI_eq ha hb).mp h
theorem rf_only {wl : Nat → Option Q4} {g : Nat → Nat} {n k : Nat} {i : Int32} {w : Q4} {P : Q4 → Prop} (hn : n ≤ 64) (hk : k < n) (ek : i = nI k) (hw : wl (g k) = some w) (hp : ¬ P w) : ¬ ∃ k', k' < n ∧ i = nI k' ∧ ∃ w', wl (g k') = some w' ∧ P w' := by
  rintro ⟨k', hk', ek', w', hw', hp'⟩
  have e : k = k' := nI_inj (by omega) (by omega) (ek.symm.trans ek')
  subst e
  rw [hw] at hw'
  cases hw'
  exact hp hp'
def m_of (o : Option Q4) (what : Int32) : Int32 := match o with
  | none => 100000
  | some w => if what = 0 then w.1 else if what = 1 then w.2.1 else if what = 2 then w.2.2.1 else if what = 3 then w.2.2.2 else 100000
theorem rf_ne_i {x : Int32} {k : Int32} (h : ¬ x = k) : ¬ x.toInt = k.toInt := fun e => h (Int32.toInt_inj.mp e)
theorem rf_sw4 {x : Int32} (h0 : ¬ x = 0) (h1 : ¬ x = 1) (h2 : ¬ x = 2) (h3 : ¬ x = 3) : x.toInt < 0 ∨ 3 < x.toInt := by
  have a0 : ¬ x.toInt = 0 := rf_ne_i h0
  have a1 : ¬ x.toInt = 1 := rf_ne_i h1
  have a2 : ¬ x.toInt = 2 := rf_ne_i h2
  have a3 : ¬ x.toInt = 3 := rf_ne_i h3
  omega
theorem rf_sw3 {x : Int32} (h0 : ¬ x = 0) (h1 : ¬ x = 1) (h2 : ¬ x = 2) : x.toInt < 0 ∨ 2 < x.toInt := by
  have a0 : ¬ x.toInt = 0 := rf_ne_i h0
  have a1 : ¬ x.toInt = 1 := rf_ne_i h1
  have a2 : ¬ x.toInt = 2 := rf_ne_i h2
  omega
theorem rf_wn_some {L : List Nat} {f : Nat → va_E} {wf : Nat → Option Nat} {wl : Nat → Option Q4} {i : Int32} {o : Option Nat} {q : Nat} (hw : rf_walls L f wf wl) (h : (∃ k, k < 64 ∧ i = nI k ∧ o = wf k) ∨ ((∀ k, k < 64 → ¬ i = nI k) ∧ o = none)) (e : o = some q) : ∃ k w, k < 64 ∧ i = nI k ∧ wf k = some q ∧ wl k = some w ∧ q ∈ L ∧ f q = e_W w := by
  rcases h with ⟨k, hk, ek, h1⟩ | ⟨_, h1⟩
  · rw [e] at h1
    obtain ⟨w, a1, a2, a3⟩ := hw.get hk h1.symm
    exact ⟨k, w, hk, ek, h1.symm, a1, a2, a3⟩
  · rw [e] at h1; cases h1
theorem rf_wn_none {L : List Nat} {f : Nat → va_E} {wf : Nat → Option Nat} {wl : Nat → Option Q4} {i : Int32} {o : Option Nat} (hw : rf_walls L f wf wl) (h : (∃ k, k < 64 ∧ i = nI k ∧ o = wf k) ∨ ((∀ k, k < 64 → ¬ i = nI k) ∧ o = none)) (e : o = none) : (∃ k, k < 64 ∧ i = nI k ∧ wl k = none) ∨ (∀ k, k < 64 → ¬ i = nI k) := by
  rcases h with ⟨k, hk, ek, h1⟩ | ⟨h1, _⟩
  · rw [e] at h1
    exact Or.inl ⟨k, hk, ek, hw.non hk h1.symm⟩
  · exact Or.inr h1
end
section
/-! A pool of objects: calls on some of them, new ones; what stays true of the field. -/
theorem rf_D_addr {A : Nat → Prop} {ws ws' : va_W} (h : va_D A ws) (e : ws'.map (·.1) = ws.map (·.1)) : va_D A ws' := by
  have key : ∀ (k : Nat) (q : Nat × va_E), ws'[k]? = some q → ∃ q0, ws[k]? = some q0 ∧ q0.1 = q.1 := by
    intro k q hk
    have h1 : (ws'.map (·.1))[k]? = some q.1 := by rw [List.getElem?_map, hk]; rfl
    rw [e, List.getElem?_map] at h1
    cases hq : ws[k]? with
    | none => rw [hq] at h1; cases h1
    | some q0 => rw [hq] at h1; exact ⟨q0, rfl, Option.some.inj h1⟩
  refine ⟨fun i j p q hi hj hpq => ?_, fun k q hk => ?_⟩
  · obtain ⟨p0, a1, a2⟩ := key i p hi
    obtain ⟨q0, b1, b2⟩ := key j q hj
    exact h.1 i j p0 q0 a1 b1 (by rw [a2, b2]; exact hpq)
  · obtain ⟨q0, a1, a2⟩ := key k q hk
    have := h.2 k q0 a1
    rw [a2] at this
    exact this
theorem rf_pl_addr (L : List Nat) (f f' : Nat → va_E) : (va_pl L f').map (·.1) = (va_pl L f).map (·.1) := by
  unfold va_pl
  rw [List.map_map, List.map_map]
  rfl
theorem rf_pl_in {L : List Nat} {f : Nat → va_E} {k : Nat} {q : Nat × va_E} (h : (va_pl L f)[k]? = some q) : q.1 ∈ L ∧ q.2 = f q.1 := by
  unfold va_pl at h
  rw [List.getElem?_map] at h
  cases hq : L[k]? with
  | none => rw [hq] at h; cases h
  | some a =>
    rw [hq] at h
    cases Option.some.inj h
    exact ⟨List.mem_of_getElem? hq, rfl⟩
/-- behind a call on cells of the pool -/
theorem rf_pool {A0 : Nat → Prop} {D : va_G} {cl : List vw_C} {X : va_W} {L : List Nat} {f : Nat → va_E} {H H1 : Heap} {wc : va_W} (hP : va_P D cl (X ++ va_pl L f) H) (hD : va_D A0 (X ++ va_pl L f)) (f' : Nat → va_E)
    (hc : ∀ (k : Nat) (q : Nat × va_E), wc[k]? = some q → q.1 ∈ L) (hk : ∀ q : Nat, q < H.size → ¬ va_A wc H.size q → H1[q]? = H[q]?)
    (h1 : ∀ (k : Nat) (q : Nat × va_E), wc[k]? = some q → va_at D cl (q.1, f' q.1) H1) (h2 : ∀ a, a ∈ L → (∀ (k : Nat) (q : Nat × va_E), wc[k]? = some q → ¬ q.1 = a) → f' a = f a) :
    va_P D cl (X ++ va_pl L f') H1 ∧ va_D A0 (X ++ va_pl L f') := by
  refine ⟨?_, rf_D_addr hD (by rw [List.map_append, List.map_append, rf_pl_addr L f f'])⟩
  have keep : ∀ (k : Nat) (q : Nat × va_E), (X ++ va_pl L f)[k]? = some q → (∀ (i : Nat) (p : Nat × va_E), wc[i]? = some p → ¬ p.1 = q.1) → va_at D cl q H1 := by
    intro k q hq hn
    have ha := hP k q hq
    refine ha.kept (hk q.1 ha.lt ?_)
    rintro (⟨i, e, hi⟩ | hi)
    · exact hn i _ hi rfl
    · exact absurd ha.lt (Nat.not_lt.mpr hi)
  intro k q hq
  rw [List.getElem?_append] at hq
  by_cases hx : k < X.length
  · rw [if_pos hx] at hq
    refine keep k q (by rw [List.getElem?_append, if_pos hx]; exact hq) ?_
    intro i p hi e
    obtain ⟨j, hj⟩ := va_pl_get (X := X) (f := f) (hc i p hi)
    have hj2 : X.length ≤ j := by
      apply Nat.not_lt.mp
      intro hlt
      have d := hD.1
      have : j = j := rfl
      have hqj := hj
      rw [List.getElem?_append, if_pos hlt] at hqj
      -- an address of X and of the pool
      obtain ⟨j2, hj2⟩ : ∃ j2, (X ++ va_pl L f)[X.length + j2]? = some (p.1, f p.1) := by
        obtain ⟨t, ht⟩ := List.getElem?_of_mem (hc i p hi)
        refine ⟨t, ?_⟩
        rw [List.getElem?_append, if_neg (by omega), Nat.add_sub_cancel_left]
        unfold va_pl
        rw [List.getElem?_map, ht]
        rfl
      have := d j (X.length + j2) _ _ hj hj2 rfl
      omega
    have := hD.1 k j q (p.1, f p.1) (by rw [List.getElem?_append, if_pos hx]; exact hq) hj e.symm
    omega
  · rw [if_neg hx] at hq
    obtain ⟨a1, a2⟩ := rf_pl_in hq
    obtain ⟨a, b⟩ := q
    dsimp only at a1 a2
    subst a2
    by_cases hin : ∃ (i : Nat) (p : Nat × va_E), wc[i]? = some p ∧ p.1 = a
    · obtain ⟨i, p, hi, e⟩ := hin
      have := h1 i p hi
      rw [e] at this
      exact this
    · have hn : ∀ (i : Nat) (p : Nat × va_E), wc[i]? = some p → ¬ p.1 = a := fun i p hi e => hin ⟨i, p, hi, e⟩
      rw [h2 a a1 hn]
      obtain ⟨j, hj⟩ := va_pl_get (X := X) (f := f) a1
      exact keep j _ hj hn
theorem rf_poolfree {A0 : Nat → Prop} {X : va_W} {L : List Nat} {f : Nat → va_E} {H0 H : Heap} {locs : List Loc} {wc : va_W} (hD : va_D A0 (X ++ va_pl L f)) (hS : va_S A0 H0 H locs) (hA : ∀ q, H0.size ≤ q → A0 q) (hc : ∀ (k : Nat) (q : Nat × va_E), wc[k]? = some q → q.1 ∈ L) : ∀ q, va_A wc H.size q → A0 q := by
  rintro q (⟨k, e, hk⟩ | hq)
  · obtain ⟨j, hj⟩ := va_pl_get (X := X) (f := f) (hc k _ hk)
    exact hD.2 j _ hj
  · exact hA q (Nat.le_trans hS.1 hq)
theorem rf_push {A0 : Nat → Prop} {D : va_G} {cl : List vw_C} {X : va_W} {L : List Nat} {f : Nat → va_E} {H : Heap} {q : Nat} {e : va_E} (hP : va_P D cl ((X ++ va_pl L f) ++ [(q, e)]) H) (hD : va_D A0 ((X ++ va_pl L f) ++ [(q, e)])) : q ∉ L ∧ va_P D cl (X ++ va_pl (L ++ [q]) (va_up f q e)) H ∧ va_D A0 (X ++ va_pl (L ++ [q]) (va_up f q e)) := by
  have hq := va_pl_fresh2 hD
  rw [List.append_assoc, va_pl_push hq] at hP hD
  exact ⟨hq, hP, hD⟩
theorem rf_walls.mono {L L' : List Nat} {f f' : Nat → va_E} {wf : Nat → Option Nat} {wl : Nat → Option Q4} (h : rf_walls L f wf wl) (hL : ∀ a, a ∈ L → a ∈ L') (hf : ∀ a w, a ∈ L → f a = e_W w → f' a = e_W w) : rf_walls L' f' wf wl := by
  refine ⟨fun k hk => ?_, h.2⟩
  rcases h.1 k hk with h1 | ⟨q, w, a1, a2, a3, a4⟩
  · exact Or.inl h1
  · exact Or.inr ⟨q, w, a1, a2, hL q a3, hf q w a3 a4⟩
section RfDown
variable {p : Program} {l : Launch} {e : Env} {R : Room} {s : State} {m : MethodId} {args : Array Value} {below : List Frame} {meth : Method} {c : Code} {H : Heap} {locs : List Loc} {cells slots : Nat} {Q : State → Prop} {ls : Array Slot}
/-- a loop that goes down -/
theorem rf_loopD (pc0 : Nat) (I : Nat → Array Slot → Heap → List Loc → Prop)
    (zero : ∀ (ls : Array Slot) (H : Heap) (locs : List Loc), I 0 ls H locs → W p l e R s m args below meth c H locs cells slots Q (F0 m pc0 ls []))
    (step : ∀ (a : Nat) (ls : Array Slot) (H : Heap) (locs : List Loc), I (a + 1) ls H locs → (∀ (ls' : Array Slot) (H' : Heap) (locs' : List Loc), I a ls' H' locs' → W p l e R s m args below meth c H' locs' cells slots Q (F0 m pc0 ls' [])) → W p l e R s m args below meth c H locs cells slots Q (F0 m pc0 ls []))
    (a : Nat) (h : I a ls H locs) : W p l e R s m args below meth c H locs cells slots Q (F0 m pc0 ls []) := by
  have key : ∀ (a : Nat) (ls : Array Slot) (H : Heap) (locs : List Loc), I a ls H locs → W p l e R s m args below meth c H locs cells slots Q (F0 m pc0 ls []) := by
    intro a
    induction a with
    | zero => exact zero
    | succ a ih => intro ls H locs h; exact step a ls H locs h ih
  exact key a ls H locs h
end RfDown
def rf_shift {α : Type} (mf : Nat → α) (n a : Nat) : Nat → α := fun j => if j ≤ a then mf j else if j ≤ n then mf (j - 1) else mf j
def rf_mins {α : Type} (mf : Nat → α) (v : α) (n p : Nat) : Nat → α := fun j => if j < p then mf j else if j = p then v else if j ≤ n then mf (j - 1) else mf j
theorem rf_shift_n {α : Type} (mf : Nat → α) (n : Nat) : rf_shift mf n n = mf := by
  funext j
  unfold rf_shift
  by_cases h : j ≤ n
  · rw [if_pos h]
  · rw [if_neg h, if_neg h]
theorem rf_shift_s {α : Type} (mf : Nat → α) (n a : Nat) (h : a + 1 ≤ n) : va_up (rf_shift mf n (a + 1)) (a + 1) (mf a) = rf_shift mf n a := by
  funext j
  unfold va_up rf_shift
  by_cases h1 : j = a + 1
  · subst h1
    rw [if_pos rfl, if_neg (by omega), if_pos h]
    rfl
  · rw [if_neg h1]
    by_cases h2 : j ≤ a
    · rw [if_pos (by omega), if_pos h2]
    · rw [if_neg (by omega), if_neg h2]
theorem rf_shift_e {α : Type} (mf : Nat → α) (v : α) (n a : Nat) : va_up (rf_shift mf n a) a v = rf_mins mf v n a := by
  funext j
  unfold va_up rf_shift rf_mins
  by_cases h1 : j = a
  · subst h1
    rw [if_pos rfl, if_neg (by omega), if_pos rfl]
  · rw [if_neg h1]
    by_cases h2 : j < a
    · rw [if_pos (by omega), if_pos h2]
    · rw [if_neg (by omega), if_neg h2, if_neg h1]
theorem rf_shift_at {α : Type} (mf : Nat → α) (n a : Nat) : rf_shift mf n (a + 1) a = mf a := by
  unfold rf_shift
  rw [if_pos (by omega)]
/-- the class's order: wall w before wall v on the ray r -/
def rf_nr (wl : Nat → Option Q4) (r : Q4) (k v : Nat) : Prop := ∃ wk wv, wl k = some wk ∧ wl v = some wv ∧ m_abs (m_p wk r) * m_abs (m_q wv r) < m_abs (m_p wv r) * m_abs (m_q wk r)
theorem rf_nr.no {wl : Nat → Option Q4} {r wk wv : Q4} {k v : Nat} (h1 : wl k = some wk) (h2 : wl v = some wv) (h : ¬ m_abs (m_p wk r) * m_abs (m_q wv r) < m_abs (m_p wv r) * m_abs (m_q wk r)) : ¬ rf_nr wl r k v := by
  rintro ⟨a, b, e1, e2, h3⟩
  rw [h1] at e1
  rw [h2] at e2
  cases e1
  cases e2
  exact h h3
theorem rf_D1 {q : Nat} {e : va_E} : va_D (fun _ => True) [(q, e)] := by
  refine ⟨fun i j p r hi hj _ => ?_, fun _ _ _ => trivial⟩
  match i, j, hi, hj with
  | 0, 0, _, _ => rfl
  | 0, j + 1, _, hj => simp at hj
  | i + 1, _, hi, _ => simp at hi
theorem rf_D3 {q q2 q3 : Nat} {e e2 e3 : va_E} (h2 : q2 ≠ q) (h3 : q3 ≠ q) (h4 : q3 ≠ q2) : va_D (fun _ => True) [(q, e), (q2, e2), (q3, e3)] := by
  refine ⟨fun i j p r hi hj hpr => ?_, fun _ _ _ => trivial⟩
  match i, j, hi, hj with
  | 0, 0, _, _ => rfl
  | 0, 1, hi, hj => cases hi; cases hj; exact absurd hpr.symm h2
  | 0, 2, hi, hj => cases hi; cases hj; exact absurd hpr.symm h3
  | 1, 0, hi, hj => cases hi; cases hj; exact absurd hpr h2
  | 1, 1, _, _ => rfl
  | 1, 2, hi, hj => cases hi; cases hj; exact absurd hpr.symm h4
  | 2, 0, hi, hj => cases hi; cases hj; exact absurd hpr h3
  | 2, 1, hi, hj => cases hi; cases hj; exact absurd hpr h4
  | 2, 2, _, _ => rfl
  | i + 3, _, hi, _ => simp at hi
  | _, j + 3, _, hj => simp at hj
theorem rf_mem1 {q : Nat} {e : va_E} {L : List Nat} (h : q ∈ L) : ∀ (k : Nat) (p : Nat × va_E), ([(q, e)] : va_W)[k]? = some p → p.1 ∈ L := by
  intro k p hk
  match k, hk with
  | 0, hk => cases hk; exact h
  | k + 1, hk => simp at hk
theorem rf_mem3 {q q2 q3 : Nat} {e e2 e3 : va_E} {L : List Nat} (h : q ∈ L) (h2 : q2 ∈ L) (h3 : q3 ∈ L) : ∀ (k : Nat) (p : Nat × va_E), ([(q, e), (q2, e2), (q3, e3)] : va_W)[k]? = some p → p.1 ∈ L := by
  intro k p hk
  match k, hk with
  | 0, hk => cases hk; exact h
  | 1, hk => cases hk; exact h2
  | 2, hk => cases hk; exact h3
  | k + 3, hk => simp at hk
theorem rf_pool1 {A0 : Nat → Prop} {D : va_G} {cl : List vw_C} {X : va_W} {L : List Nat} {f : Nat → va_E} {H H1 : Heap} {q : Nat} {e u : va_E} (hP : va_P D cl (X ++ va_pl L f) H) (hD : va_D A0 (X ++ va_pl L f)) (hq : q ∈ L) (hk : ∀ x : Nat, x < H.size → ¬ va_A [(q, e)] H.size x → H1[x]? = H[x]?) (hP1 : va_P D cl [(q, u)] H1) :
    va_P D cl (X ++ va_pl L (va_up f q u)) H1 ∧ va_D A0 (X ++ va_pl L (va_up f q u)) := by
  refine rf_pool (wc := [(q, e)]) hP hD (va_up f q u) (rf_mem1 hq) hk ?_ ?_
  · intro k p hk
    match k, hk with
    | 0, hk => cases hk; dsimp only; rw [va_up_self]; exact hP1 0 _ rfl
    | k + 1, hk => simp at hk
  · intro a _ h
    exact va_up_ne f u (fun z => h 0 (q, e) rfl z.symm)
theorem rf_pool3 {A0 : Nat → Prop} {D : va_G} {cl : List vw_C} {X : va_W} {L : List Nat} {f : Nat → va_E} {H H1 : Heap} {q q2 q3 : Nat} {e e2 e3 u : va_E} (hP : va_P D cl (X ++ va_pl L f) H) (hD : va_D A0 (X ++ va_pl L f)) (hq : q ∈ L) (hq2 : q2 ∈ L) (hq3 : q3 ∈ L) (n2 : q2 ≠ q) (n3 : q3 ≠ q) (f2 : f q2 = e2) (f3 : f q3 = e3)
    (hk : ∀ x : Nat, x < H.size → ¬ va_A [(q, e), (q2, e2), (q3, e3)] H.size x → H1[x]? = H[x]?) (hP1 : va_P D cl [(q, u), (q2, e2), (q3, e3)] H1) :
    va_P D cl (X ++ va_pl L (va_up f q u)) H1 ∧ va_D A0 (X ++ va_pl L (va_up f q u)) := by
  refine rf_pool (wc := [(q, e), (q2, e2), (q3, e3)]) hP hD (va_up f q u) (rf_mem3 hq hq2 hq3) hk ?_ ?_
  · intro k p hk
    match k, hk with
    | 0, hk => cases hk; dsimp only; rw [va_up_self]; exact hP1 0 _ rfl
    | 1, hk => cases hk; dsimp only; rw [va_up_ne f u n2, f2]; exact hP1 1 _ rfl
    | 2, hk => cases hk; dsimp only; rw [va_up_ne f u n3, f3]; exact hP1 2 _ rfl
    | k + 3, hk => simp at hk
  · intro a _ h
    exact va_up_ne f u (fun z => h 0 (q, e) rfl z.symm)
theorem rf_freeW {A0 : Nat → Prop} {ws : va_W} {H0 H : Heap} {locs : List Loc} (hD : va_D A0 ws) (hS : va_S A0 H0 H locs) (hA : ∀ q, H0.size ≤ q → A0 q) : ∀ q, va_A ws H.size q → A0 q := by
  rintro q (⟨k, e, hk⟩ | hq)
  · exact hD.2 k _ hk
  · exact hA q (Nat.le_trans hS.1 hq)
theorem rf_P3 {D : va_G} {cl : List vw_C} {H : Heap} {q q2 q3 : Nat} {e e2 e3 : va_E} (h : va_P D cl [(q, e)] H) (h2 : va_P D cl [(q2, e2)] H) (h3 : va_P D cl [(q3, e3)] H) : va_P D cl [(q, e), (q2, e2), (q3, e3)] H := (h.app h2).app h3
end
section
/-! What stays true of the field's pool when meetings are made, filled and put in order. -/
/-- the walls and rays of the pool stay -/
def rf_keep (L : List Nat) (f : Nat → va_E) (L' : List Nat) (f' : Nat → va_E) : Prop := (∀ a, a ∈ L → a ∈ L') ∧ (∀ a w, a ∈ L → f a = e_W w → f' a = e_W w) ∧ (∀ a w, a ∈ L → f a = e_R w → f' a = e_R w)
theorem rf_keep.rfl' {L : List Nat} {f : Nat → va_E} : rf_keep L f L f := ⟨fun _ h => h, fun _ _ _ h => h, fun _ _ _ h => h⟩
theorem rf_keep.trans {L L' L'' : List Nat} {f f' f'' : Nat → va_E} (h : rf_keep L f L' f') (h' : rf_keep L' f' L'' f'') : rf_keep L f L'' f'' :=
  ⟨fun a q => h'.1 a (h.1 a q), fun a w q e => h'.2.1 a w (h.1 a q) (h.2.1 a w q e), fun a w q e => h'.2.2 a w (h.1 a q) (h.2.2 a w q e)⟩
theorem rf_keep.new {L : List Nat} {f : Nat → va_E} {q : Nat} {e : va_E} (hq : q ∉ L) : rf_keep L f (L ++ [q]) (va_up f q e) := by
  have ne : ∀ a, a ∈ L → a ≠ q := fun a h z => hq (z ▸ h)
  exact ⟨fun a h => List.mem_append_left _ h, fun a w h z => by rw [va_up_ne f e (ne a h)]; exact z, fun a w h z => by rw [va_up_ne f e (ne a h)]; exact z⟩
theorem rf_keep.fill {L : List Nat} {f : Nat → va_E} {q : Nat} {u : va_E} {n fr : Int32} {ds ad dv : Int64} (hq : f q = e_M n fr ds ad dv) : rf_keep L f L (va_up f q u) := by
  refine ⟨fun a h => h, fun a w h z => ?_, fun a w h z => ?_⟩
  · have : a ≠ q := by intro e; subst e; rw [hq] at z; cases z
    rw [va_up_ne f u this]; exact z
  · have : a ≠ q := by intro e; subst e; rw [hq] at z; cases z
    rw [va_up_ne f u this]; exact z
theorem rf_walls.keep {L L' : List Nat} {f f' : Nat → va_E} {wf : Nat → Option Nat} {wl : Nat → Option Q4} (h : rf_walls L f wf wl) (hk : rf_keep L f L' f') : rf_walls L' f' wf wl := h.mono hk.1 hk.2.1
theorem rf_mpool.new {L : List Nat} {f : Nat → va_E} {mf : Nat → Option Nat} {q n : Nat} {n1 f1 : Int32} {d1 a1 v1 : Int64} (h : rf_mpool L f mf) (hq : q ∉ L) (hn : mf n = none) : rf_mpool (L ++ [q]) (va_up f q (e_M n1 f1 d1 a1 v1)) (va_up mf n (some q)) := by
  have ne : ∀ a, a ∈ L → a ≠ q := fun a h z => hq (z ▸ h)
  refine ⟨fun j q' hj e => ?_, fun i j q' hi hj e1 e2 => ?_⟩
  · by_cases c : j = n
    · subst c
      rw [va_up_self] at e
      cases e
      exact ⟨List.mem_append_right _ (List.mem_singleton.mpr rfl), n1, f1, d1, a1, v1, va_up_self _ _ _⟩
    · rw [va_up_ne mf _ c] at e
      obtain ⟨h1, h2⟩ := h.1 j q' hj e
      refine ⟨List.mem_append_left _ h1, ?_⟩
      rw [va_up_ne f _ (ne q' h1)]
      exact h2
  · by_cases c1 : i = n <;> by_cases c2 : j = n
    · rw [c1, c2]
    · exfalso
      subst c1
      rw [va_up_self] at e1
      cases e1
      rw [va_up_ne mf _ c2] at e2
      exact hq (h.1 j q hj e2).1
    · exfalso
      subst c2
      rw [va_up_self] at e2
      cases e2
      rw [va_up_ne mf _ c1] at e1
      exact hq (h.1 i q hi e1).1
    · rw [va_up_ne mf _ c1] at e1
      rw [va_up_ne mf _ c2] at e2
      exact h.2 i j q' hi hj e1 e2
theorem rf_mpool.fill {L : List Nat} {f : Nat → va_E} {mf : Nat → Option Nat} {q : Nat} {u : va_E} (h : rf_mpool L f mf) (hu : ∃ n fr ds ad dv, u = e_M n fr ds ad dv) : rf_mpool L (va_up f q u) mf := by
  refine ⟨fun j q' hj e => ?_, h.2⟩
  obtain ⟨h1, h2⟩ := h.1 j q' hj e
  refine ⟨h1, ?_⟩
  by_cases c : q' = q
  · subst c
    obtain ⟨a, b, d, d1, d2, e2⟩ := hu
    exact ⟨a, b, d, d1, d2, by rw [va_up_self]; exact e2⟩
  · rw [va_up_ne f u c]; exact h2
theorem rf_mins_src {α : Type} (mf : Nat → Option α) (q : α) {n p j : Nat} (hp : p ≤ n) (hn : mf n = some q) : ∃ i, (j ≤ n → i ≤ n) ∧ (n < j → i = j) ∧ rf_mins mf (some q) n p j = mf i ∧ (i = n ↔ j = p) ∧ (j ≠ p → ((i = j ∧ (j < p ∨ n < j)) ∨ (p < j ∧ j ≤ n ∧ i + 1 = j))) := by
  unfold rf_mins
  by_cases h1 : j < p
  · exact ⟨j, by omega, by omega, by rw [if_pos h1], by omega, by omega⟩
  · by_cases h2 : j = p
    · exact ⟨n, by omega, by omega, by rw [if_neg h1, if_pos h2, hn], by omega, by omega⟩
    · by_cases h3 : j ≤ n
      · exact ⟨j - 1, by omega, by omega, by rw [if_neg h1, if_neg h2, if_pos h3], by omega, by omega⟩
      · exact ⟨j, by omega, by omega, by rw [if_neg h1, if_neg h2, if_neg h3], by omega, by omega⟩
theorem rf_mpool.sort {L : List Nat} {f : Nat → va_E} {mf : Nat → Option Nat} {q n p : Nat} (h : rf_mpool L f mf) (hn : n < 64) (hp : p ≤ n) (hq : mf n = some q) : rf_mpool L f (rf_mins mf (some q) n p) := by
  refine ⟨fun j q' hj e => ?_, fun i j q' hi hj e1 e2 => ?_⟩
  · obtain ⟨i, a1, a2, a3, _⟩ := rf_mins_src mf q (j := j) hp hq
    rw [a3] at e
    exact h.1 i q' (by omega) e
  · obtain ⟨i1, a1, a2, a3, a4, a5⟩ := rf_mins_src mf q (j := i) hp hq
    obtain ⟨j1, b1, b2, b3, b4, b5⟩ := rf_mins_src mf q (j := j) hp hq
    rw [a3] at e1
    rw [b3] at e2
    have e := h.2 i1 j1 q' (by omega) (by omega) e1 e2
    omega
theorem rf_meets.new {L : List Nat} {f : Nat → va_E} {mf : Nat → Option Nat} {wl : Nat → Option Q4} {r : Q4} {n : Nat} {g : Nat → Nat} {q : Nat} {e : va_E} (h : rf_meets L f mf wl r n g) (hq : q ∉ L) : rf_meets (L ++ [q]) (va_up f q e) (va_up mf n (some q)) wl r n g := by
  intro j hj
  obtain ⟨q', w, a1, a2, a3, a4⟩ := h j hj
  refine ⟨q', w, ?_, List.mem_append_left _ a2, a3, ?_⟩
  · rw [va_up_ne mf _ (by omega)]; exact a1
  · rw [va_up_ne f (k := q) (j := q') _ (fun z => hq (z ▸ a2))]; exact a4
theorem rf_meets.fill {L : List Nat} {f : Nat → va_E} {mf : Nat → Option Nat} {wl : Nat → Option Q4} {r : Q4} {n : Nat} {g : Nat → Nat} {q : Nat} {u : va_E} (h : rf_meets L f mf wl r n g) (hm : rf_mpool L f mf) (hn : n < 64) (hq : mf n = some q) : rf_meets L (va_up f q u) mf wl r n g := by
  intro j hj
  obtain ⟨q', w, a1, a2, a3, a4⟩ := h j hj
  have : q' ≠ q := by
    intro z
    subst z
    have := hm.2 j n q' (by omega) hn a1 hq
    omega
  exact ⟨q', w, a1, a2, a3, by rw [va_up_ne f u this]; exact a4⟩
theorem rf_meets.sort {L : List Nat} {f : Nat → va_E} {mf : Nat → Option Nat} {wl : Nat → Option Q4} {r : Q4} {n : Nat} {g : Nat → Nat} {q k p : Nat} {w : Q4} (h : rf_meets L f mf wl r n g) (hq : q ∈ L) (hp : p ≤ n) (hw : wl k = some w) (hf : f q = e_Mw k w r) : rf_meets L f (rf_mins mf (some q) n p) wl r (n + 1) (g_ins g p k) := by
  intro j hj
  unfold rf_mins g_ins
  by_cases h1 : j < p
  · rw [if_pos h1, if_pos h1]
    exact h j (by omega)
  · rw [if_neg h1, if_neg h1]
    by_cases h2 : j = p
    · rw [if_pos h2, if_pos h2]
      exact ⟨q, w, rfl, hq, hw, hf⟩
    · rw [if_neg h2, if_neg h2, if_pos (by omega)]
      exact h (j - 1) (by omega)
def rf_mt (wl : Nat → Option Q4) (r : Q4) (k : Nat) : Prop := ∃ w, wl k = some w ∧ m_met w r
theorem rf_mt.no {wl : Nat → Option Q4} {r w : Q4} {k : Nat} (h : wl k = some w) (h2 : ¬ m_met w r) : ¬ rf_mt wl r k := by
  rintro ⟨w', h1, h3⟩
  rw [h] at h1
  cases h1
  exact h2 h3
theorem rf_mt.no0 {wl : Nat → Option Q4} {r : Q4} {k : Nat} (h : wl k = none) : ¬ rf_mt wl r k := by
  rintro ⟨w', h1, h3⟩
  rw [h] at h1
  cases h1
theorem rf_isM {u : va_E} {P : Prop} {n fr n' fr' : Int32} {ds ad dv ds' ad' dv' : Int64} (h1 : P → u = e_M n fr ds ad dv) (h2 : ¬ P → u = e_M n' fr' ds' ad' dv') : ∃ n fr ds ad dv, u = e_M n fr ds ad dv := by
  by_cases h : P
  · exact ⟨_, _, _, _, _, h1 h⟩
  · exact ⟨_, _, _, _, _, h2 h⟩
theorem rf_neMW {f : Nat → va_E} {a b : Nat} {n fr : Int32} {ds ad dv : Int64} {w : Q4} (h1 : f a = e_M n fr ds ad dv) (h2 : f b = e_W w) : b ≠ a := by
  intro e; subst e; rw [h1] at h2; cases h2
theorem rf_neMR {f : Nat → va_E} {a b : Nat} {n fr : Int32} {ds ad dv : Int64} {w : Q4} (h1 : f a = e_M n fr ds ad dv) (h2 : f b = e_R w) : b ≠ a := by
  intro e; subst e; rw [h1] at h2; cases h2
theorem rf_neWR {f : Nat → va_E} {a b : Nat} {v w : Q4} (h1 : f a = e_W v) (h2 : f b = e_R w) : b ≠ a := by
  intro e; subst e; rw [h1] at h2; cases h2
/-- all that the field's cells say: walls wl, ray ra where there is one, its n met walls g 0, g 1 .. -/
def rf_CF (wl : Nat → Option Q4) (ra : Q4) (ry : Option Nat) (wf mf : Nat → Option Nat) (L : List Nat) (f : Nat → va_E) (n : Nat) (g : Nat → Nat) : Prop :=
  rf_walls L f wf wl ∧ rf_mpool L f mf ∧ (∀ q, ry = some q → q ∈ L ∧ f q = e_R ra) ∧ n ≤ 64 ∧ (ry = none → n = 0) ∧ rf_meets L f mf wl ra n g ∧ (∀ q, ry = some q → g_ok (rf_mt wl ra) (rf_nr wl ra) 64 n g)
theorem rf_CF.mk9 {wl : Nat → Option Q4} {ra : Q4} {ry : Option Nat} {wf : Nat → Option Nat} {L : List Nat} {f : Nat → va_E} {u : List Nat × (Nat → va_E) × (Nat → Option Nat) × Nat × (Nat → Nat)} (hw : rf_walls L f wf wl) (hry : ∀ q, ry = some q → q ∈ L ∧ f q = e_R ra)
    (h : rf_keep L f u.1 u.2.1 ∧ rf_mpool u.1 u.2.1 u.2.2.1 ∧ u.2.2.2.1 ≤ 64 ∧ ((ry = none ∧ u.2.2.2.1 = 0) ∨ (∃ q, ry = some q ∧ rf_meets u.1 u.2.1 u.2.2.1 wl ra u.2.2.2.1 u.2.2.2.2 ∧ g_ok (rf_mt wl ra) (rf_nr wl ra) 64 u.2.2.2.1 u.2.2.2.2))) :
    rf_CF wl ra ry wf u.2.2.1 u.1 u.2.1 u.2.2.2.1 u.2.2.2.2 := by
  obtain ⟨h1, h2, h3, h4⟩ := h
  refine ⟨hw.keep h1, h2, fun q e => ?_, h3, ?_, ?_, ?_⟩
  · obtain ⟨a, b⟩ := hry q e
    exact ⟨h1.1 q a, h1.2.2 q ra a b⟩
  · intro e
    rcases h4 with ⟨_, h⟩ | ⟨q, e2, _⟩
    · exact h
    · rw [e] at e2; cases e2
  · rcases h4 with ⟨_, h⟩ | ⟨q, _, h, _⟩
    · intro j hj; rw [h] at hj; exact absurd hj (Nat.not_lt_zero _)
    · exact h
  · intro q e
    rcases h4 with ⟨e2, _⟩ | ⟨_, _, _, h⟩
    · rw [e] at e2; cases e2
    · exact h
theorem rf_no_wall {wl : Nat → Option Q4} {i : Int32} (h : (∃ k, k < 64 ∧ i = nI k ∧ wl k = none) ∨ (∀ k, k < 64 → ¬ i = nI k)) : ∀ k w, k < 64 → i = nI k → ¬ wl k = some w := by
  intro k w hk ek e
  rcases h with ⟨j, hj, ej, h⟩ | h
  · have : k = j := nI_inj (by omega) (by omega) (ek.symm.trans ej)
    subst this
    rw [h] at e
    cases e
  · exact h k hk ek
theorem rf_walls.take {L : List Nat} {f : Nat → va_E} {wf : Nat → Option Nat} {wl : Nat → Option Q4} {k : Nat} (h : rf_walls L f wf wl) : rf_walls L f (va_up wf k none) (va_up wl k none) := by
  refine ⟨fun j hj => ?_, fun i j q hi hj e1 e2 => ?_⟩
  · by_cases c : j = k
    · subst c; exact Or.inl ⟨va_up_self _ _ _, va_up_self _ _ _⟩
    · rw [va_up_ne wf _ c, va_up_ne wl _ c]; exact h.1 j hj
  · by_cases c1 : i = k
    · subst c1; rw [va_up_self] at e1; cases e1
    · by_cases c2 : j = k
      · subst c2; rw [va_up_self] at e2; cases e2
      · rw [va_up_ne wf _ c1] at e1
        rw [va_up_ne wf _ c2] at e2
        exact h.2 i j q hi hj e1 e2
theorem rf_walls.turn {L : List Nat} {f : Nat → va_E} {wf : Nat → Option Nat} {wl : Nat → Option Q4} {k q : Nat} {w' : Q4} (h : rf_walls L f wf wl) (hk : k < 64) (hq : wf k = some q) (hL : q ∈ L) : rf_walls L (va_up f q (e_W w')) wf (va_up wl k (some w')) := by
  refine ⟨fun j hj => ?_, h.2⟩
  by_cases c : j = k
  · subst c
    exact Or.inr ⟨q, w', hq, va_up_self _ _ _, hL, va_up_self _ _ _⟩
  · rw [va_up_ne wl _ c]
    rcases h.1 j hj with h1 | ⟨q', w, a1, a2, a3, a4⟩
    · exact Or.inl h1
    · refine Or.inr ⟨q', w, a1, a2, a3, ?_⟩
      rw [va_up_ne f (k := q) (j := q') _ (fun z => c (h.2 j k q' hj hk a1 (z ▸ hq)))]
      exact a4
theorem rf_mpool.wall {L : List Nat} {f : Nat → va_E} {mf : Nat → Option Nat} {q : Nat} {u : va_E} {w : Q4} (h : rf_mpool L f mf) (hq : f q = e_W w) : rf_mpool L (va_up f q u) mf := by
  refine ⟨fun j q' hj e => ?_, h.2⟩
  obtain ⟨h1, n, fr, ds, ad, dv, h2⟩ := h.1 j q' hj e
  refine ⟨h1, n, fr, ds, ad, dv, ?_⟩
  rw [va_up_ne f _ (fun z => by subst z; rw [hq] at h2; cases h2)]
  exact h2
theorem rf_ry_wall {ry : Option Nat} {L : List Nat} {f : Nat → va_E} {ra w : Q4} {q : Nat} {u : va_E} (h : ∀ q, ry = some q → q ∈ L ∧ f q = e_R ra) (hq : f q = e_W w) : ∀ p, ry = some p → p ∈ L ∧ va_up f q u p = e_R ra := by
  intro p e
  obtain ⟨a, b⟩ := h p e
  refine ⟨a, ?_⟩
  rw [va_up_ne f _ (fun z => by subst z; rw [hq] at b; cases b)]
  exact b
theorem rf_walls.put {L : List Nat} {f : Nat → va_E} {wf : Nat → Option Nat} {wl : Nat → Option Q4} {k q : Nat} {w : Q4} (h : rf_walls L f wf wl) (hL : q ∈ L) (hf : f q = e_W w) (hn : ∀ j, j < 64 → ¬ wf j = some q) : rf_walls L f (va_up wf k (some q)) (va_up wl k (some w)) := by
  refine ⟨fun j hj => ?_, fun i j p hi hj e1 e2 => ?_⟩
  · by_cases c : j = k
    · subst c; exact Or.inr ⟨q, w, va_up_self _ _ _, va_up_self _ _ _, hL, hf⟩
    · rw [va_up_ne wf _ c, va_up_ne wl _ c]; exact h.1 j hj
  · by_cases c1 : i = k <;> by_cases c2 : j = k
    · rw [c1, c2]
    · exfalso
      subst c1
      rw [va_up_self] at e1
      cases e1
      rw [va_up_ne wf _ c2] at e2
      exact hn j hj e2
    · exfalso
      subst c2
      rw [va_up_self] at e2
      cases e2
      rw [va_up_ne wf _ c1] at e1
      exact hn i hi e1
    · rw [va_up_ne wf _ c1] at e1
      rw [va_up_ne wf _ c2] at e2
      exact h.2 i j p hi hj e1 e2
theorem rf_walls.fresh {L : List Nat} {f : Nat → va_E} {wf : Nat → Option Nat} {wl : Nat → Option Q4} {q : Nat} (h : rf_walls L f wf wl) (hq : q ∉ L) : ∀ j, j < 64 → ¬ wf j = some q := by
  intro j hj e
  obtain ⟨w, _, a, _⟩ := h.get hj e
  exact hq a
theorem rf_mpool.keep {L : List Nat} {f : Nat → va_E} {mf : Nat → Option Nat} {q : Nat} {e : va_E} (h : rf_mpool L f mf) (hq : q ∉ L) : rf_mpool (L ++ [q]) (va_up f q e) mf := by
  refine ⟨fun j q' hj z => ?_, h.2⟩
  obtain ⟨h1, h2⟩ := h.1 j q' hj z
  refine ⟨List.mem_append_left _ h1, ?_⟩
  rw [va_up_ne f (k := q) (j := q') _ (fun y => hq (y ▸ h1))]
  exact h2
theorem rf_ry_keep {ry : Option Nat} {L L' : List Nat} {f f' : Nat → va_E} {ra : Q4} (h : ∀ q, ry = some q → q ∈ L ∧ f q = e_R ra) (hk : rf_keep L f L' f') : ∀ q, ry = some q → q ∈ L' ∧ f' q = e_R ra := by
  intro q e
  obtain ⟨a, b⟩ := h q e
  exact ⟨hk.1 q a, hk.2.2 q ra a b⟩
theorem rf_CF.new {wl : Nat → Option Q4} {ra : Q4} {ry : Option Nat} {wf mf : Nat → Option Nat} {L : List Nat} {f : Nat → va_E} {n : Nat} {g : Nat → Nat} {q : Nat} {e : va_E} (h : rf_CF wl ra ry wf mf L f n g) (hq : q ∉ L) : rf_CF wl ra ry wf mf (L ++ [q]) (va_up f q e) n g := by
  obtain ⟨h1, h2, h3, h4, h5, h6, h7⟩ := h
  have hk : rf_keep L f (L ++ [q]) (va_up f q e) := rf_keep.new hq
  refine ⟨h1.keep hk, h2.keep hq, rf_ry_keep h3 hk, h4, h5, ?_, h7⟩
  intro j hj
  obtain ⟨q', w, a1, a2, a3, a4⟩ := h6 j hj
  exact ⟨q', w, a1, List.mem_append_left _ a2, a3, by rw [va_up_ne f (k := q) (j := q') _ (fun y => hq (y ▸ a2))]; exact a4⟩
theorem rf_walls.none' {L : List Nat} {f : Nat → va_E} {wf : Nat → Option Nat} (h : ∀ j, j < 64 → wf j = none) : rf_walls L f wf (fun _ => none) :=
  ⟨fun k hk => Or.inl ⟨h k hk, rfl⟩, fun i j q hi _ e => by rw [h i hi] at e; cases e⟩
/-- what put asks of a wall v that is to have the number k -/
def rf_putok (cl : Q4 → Q4 → Prop) (wl : Nat → Option Q4) (v : Q4) (k : Nat) : Prop := m_place v.1 v.2.1 2000 ∧ m_place v.2.2.1 v.2.2.2 2000 ∧ ¬ (v.1 = v.2.2.1 ∧ v.2.1 = v.2.2.2) ∧ k < 64 ∧ wl k = none ∧ (∀ j, j < k → ¬ wl j = none) ∧ ¬ ∃ j, j < 64 ∧ ∃ w, wl j = some w ∧ cl v w
end
section
set_option maxHeartbeats 4000000 in
set_option maxRecDepth 100000 in
/-- cross -/
theorem c_RF_cross (l : Launch) (D : va_G) (tys : List (ClassId × FieldType)) (px py qx qy : Int64) : Met l y_RF_cross (.code y_RF_cross b_RF_cross 8 (some (.long)) :: BIG) { frames := 0, cells := 0, slots := 0, locals := 0 } (rf_Pc D tys [.long px, .long py, .long qx, .long qy] (fun _ => True)) (vp_Sl (fun r => r = m_cross px py qx qy)) 0 0 (fun _ => False) := by
  refine Met.ofW (cc := b_RF_cross) (maxL := 8) (ret := (some (.long))) (by decide) rfl ?_
  intro p e s m args below meth c s₁ B hml hv
  obtain ⟨rfl, hE, hP⟩ := hv
  have hx := B.exec
  have hb := B.bytes
  have hr := B.returns
  have hts : ∀ w ∈ BIG, w.before [.long px, .long py, .long qx, .long qy].toArray s = true := fun w h => atoms_spec (ws := .code y_RF_cross b_RF_cross 8 (some (.long)) :: BIG) B.pre w (List.mem_cons_of_mem _ h)
  have hown : s.vm.findClass "RayField" = some m.cls := findClass_of_methodNamed B.named
  have hlocks := B.notSynchronized
  have hK := hE.2
  have S0 : CallFix p m c b_RF_cross 8 s [.long px, .long py, .long qx, .long qy].toArray BIG "RayField" := ⟨hx, hb, hml, hown, hts⟩
  have hl := lv_entry ([.long px, .long py, .long qx, .long qy]) (n := 8) (Nat.le_of_ble_eq_true rfl)
  rw [lg_entry_eq]
  generalize (lg_sl ([.long px, .long py, .long qx, .long qy]) ++ List.replicate (8 - (lg_sl ([.long px, .long py, .long qx, .long qy])).length) Slot.unset).toArray = ls at hl ⊢
  have hl : lv_has ls 8 [(0, .long px), (2, .long py), (4, .long qx), (6, .long qy)] := hl
  refine lv_lload_n hx hb d_RF_cross_0 rfl (lv_at hl 0 rfl) ?_
  refine lv_lload hx hb d_RF_cross_1 (lv_at hl 3 rfl) ?_
  refine lv_lmul hx hb d_RF_cross_3 ?_
  refine lv_lload_n hx hb d_RF_cross_4 rfl (lv_at hl 1 rfl) ?_
  refine lv_lload hx hb d_RF_cross_5 (lv_at hl 2 rfl) ?_
  refine lv_lmul hx hb d_RF_cross_7 ?_
  refine lv_lsub hx hb d_RF_cross_8 ?_
  exact W.lret (v := (px * qy) - (py * qx)) hx hb hr (fun t ht hW => ⟨_, rfl, rfl, ht⟩) (fun _ h => absurd h List.not_mem_nil) d_RF_cross_9
set_option maxHeartbeats 4000000 in
set_option maxRecDepth 100000 in
theorem c_RF_isBetween (l : Launch) (D : va_G) (tys : List (ClassId × FieldType)) (v lo hi : Int32) : Met l y_RF_isBetween (.code y_RF_isBetween b_RF_isBetween 3 (some (.boolean)) :: BIG) { frames := 0, cells := 0, slots := 0, locals := 0 } (rf_Pc D tys [.int v, .int lo, .int hi] (fun _ => True)) (vp_Si (fun r => rf_tf r (m_btw v lo hi))) 0 0 (fun _ => False) := by
  refine Met.ofW (cc := b_RF_isBetween) (maxL := 3) (ret := (some (.boolean))) (by decide) rfl ?_
  intro p e s m args below meth c s₁ B hml hv
  obtain ⟨rfl, hE, hP⟩ := hv
  have hx := B.exec
  have hb := B.bytes
  have hr := B.returns
  have hts : ∀ w ∈ BIG, w.before [.int v, .int lo, .int hi].toArray s = true := fun w h => atoms_spec (ws := .code y_RF_isBetween b_RF_isBetween 3 (some (.boolean)) :: BIG) B.pre w (List.mem_cons_of_mem _ h)
  have hown : s.vm.findClass "RayField" = some m.cls := findClass_of_methodNamed B.named
  have hlocks := B.notSynchronized
  have hK := hE.2
  have S0 : CallFix p m c b_RF_isBetween 3 s [.int v, .int lo, .int hi].toArray BIG "RayField" := ⟨hx, hb, hml, hown, hts⟩
  have hl := lv_entry ([.int v, .int lo, .int hi]) (n := 3) (Nat.le_of_ble_eq_true rfl)
  rw [lg_entry_eq]
  generalize (lg_sl ([.int v, .int lo, .int hi]) ++ List.replicate (3 - (lg_sl ([.int v, .int lo, .int hi])).length) Slot.unset).toArray = ls at hl ⊢
  have hl : lv_has ls 3 [(0, .int v), (1, .int lo), (2, .int hi)] := hl
  refine lv_iload_n hx hb d_RF_isBetween_0 rfl (lv_at hl 0 rfl) ?_
  refine lv_iload_n hx hb d_RF_isBetween_1 rfl (lv_at hl 1 rfl) ?_
  refine lv_icmp_lt (tgt := 14) hx hb d_RF_isBetween_2 (by decide) (fun c_1 => ?_) (fun c_1 => ?_)
  · refine lv_iconst (v := 0) hx hb d_RF_isBetween_14 (by decide) ?_
    exact W.zret (v := 0) (ty := .boolean) hx hb hr rfl (fun t ht hW => ⟨_, rfl, (rf_F (fun h => (Int32.not_le.mpr c_1) h.1)), ht⟩) (fun _ h => absurd h List.not_mem_nil) d_RF_isBetween_15
  · refine lv_iload_n hx hb d_RF_isBetween_5 rfl (lv_at hl 0 rfl) ?_
    refine lv_iload_n hx hb d_RF_isBetween_6 rfl (lv_at hl 2 rfl) ?_
    refine lv_icmp_gt (tgt := 14) hx hb d_RF_isBetween_7 (by decide) (fun c_2 => ?_) (fun c_2 => ?_)
    · refine lv_iconst (v := 0) hx hb d_RF_isBetween_14 (by decide) ?_
      exact W.zret (v := 0) (ty := .boolean) hx hb hr rfl (fun t ht hW => ⟨_, rfl, (rf_F (fun h => (Int32.not_le.mpr c_2) h.2)), ht⟩) (fun _ h => absurd h List.not_mem_nil) d_RF_isBetween_15
    · refine lv_iconst (v := 1) hx hb d_RF_isBetween_10 (by decide) ?_
      refine lv_goto (tgt := 15) hx hb d_RF_isBetween_11 (by decide) ?_
      exact W.zret (v := 1) (ty := .boolean) hx hb hr rfl (fun t ht hW => ⟨_, rfl, (rf_T ⟨(Int32.not_lt.mp c_1), (Int32.not_lt.mp c_2)⟩), ht⟩) (fun _ h => absurd h List.not_mem_nil) d_RF_isBetween_15
set_option maxHeartbeats 4000000 in
set_option maxRecDepth 100000 in
theorem c_RF_isNumber (l : Launch) (D : va_G) (tys : List (ClassId × FieldType)) (v : Int32) : Met l y_RF_isNumber (.code y_RF_isNumber b_RF_isNumber 1 (some (.boolean)) :: BIG) { frames := 1, cells := 0, slots := 0, locals := 40 } (rf_Pc D tys [.int v] (fun _ => True)) (vp_Si (fun r => rf_tf r (m_btw v 0 63))) 0 0 (fun _ => False) := by
  refine Met.ofW (cc := b_RF_isNumber) (maxL := 1) (ret := (some (.boolean))) (by decide) rfl ?_
  intro p e s m args below meth c s₁ B hml hv
  obtain ⟨rfl, hE, hP⟩ := hv
  have hx := B.exec
  have hb := B.bytes
  have hr := B.returns
  have hts : ∀ w ∈ BIG, w.before [.int v].toArray s = true := fun w h => atoms_spec (ws := .code y_RF_isNumber b_RF_isNumber 1 (some (.boolean)) :: BIG) B.pre w (List.mem_cons_of_mem _ h)
  have hown : s.vm.findClass "RayField" = some m.cls := findClass_of_methodNamed B.named
  have hlocks := B.notSynchronized
  have hK := hE.2
  have S0 : CallFix p m c b_RF_isNumber 1 s [.int v].toArray BIG "RayField" := ⟨hx, hb, hml, hown, hts⟩
  have hl := lv_entry ([.int v]) (n := 1) (Nat.le_of_ble_eq_true rfl)
  rw [lg_entry_eq]
  generalize (lg_sl ([.int v]) ++ List.replicate (1 - (lg_sl ([.int v])).length) Slot.unset).toArray = ls at hl ⊢
  have hl : lv_has ls 1 [(0, .int v)] := hl
  refine lv_iload_n hx hb d_RF_isNumber_0 rfl (lv_at hl 0 rfl) ?_
  refine lv_iconst (v := 0) hx hb d_RF_isNumber_1 (by decide) ?_
  refine lv_bipush (v := 63) hx hb d_RF_isNumber_2 (by decide) ?_
  refine vp_callSi (va_Run.run (rf_runS (As := [.int v, .int 0, .int 63]) (rest := []) S0 ml_RF_76 (c_RF_isBetween l D tys v 0 63) hE trivial ⟨rfl, rfl, Nat.le_of_ble_eq_true rfl, Nat.le_of_ble_eq_true rfl⟩ rfl hl.1 rfl (Nat.le_of_ble_eq_true rfl) d_RF_isNumber_4 ⟨Nat.zero_le _, Nat.zero_le _⟩)) (fun r_1 h_2 => ?_)
  exact W.zret (v := r_1) (ty := .boolean) hx hb hr h_2.nar (fun t ht hW => ⟨_, rfl, h_2, ht⟩) (fun _ h => absurd h List.not_mem_nil) d_RF_isNumber_7
set_option maxHeartbeats 4000000 in
set_option maxRecDepth 100000 in
theorem c_RF_isPlace (l : Launch) (D : va_G) (tys : List (ClassId × FieldType)) (x y re : Int32) : Met l y_RF_isPlace (.code y_RF_isPlace b_RF_isPlace 3 (some (.boolean)) :: BIG) { frames := 1, cells := 0, slots := 0, locals := 40 } (rf_Pc D tys [.int x, .int y, .int re] (fun _ => True)) (vp_Si (fun r => rf_tf r (m_place x y re))) 0 0 (fun _ => False) := by
  refine Met.ofW (cc := b_RF_isPlace) (maxL := 3) (ret := (some (.boolean))) (by decide) rfl ?_
  intro p e s m args below meth c s₁ B hml hv
  obtain ⟨rfl, hE, hP⟩ := hv
  have hx := B.exec
  have hb := B.bytes
  have hr := B.returns
  have hts : ∀ w ∈ BIG, w.before [.int x, .int y, .int re].toArray s = true := fun w h => atoms_spec (ws := .code y_RF_isPlace b_RF_isPlace 3 (some (.boolean)) :: BIG) B.pre w (List.mem_cons_of_mem _ h)
  have hown : s.vm.findClass "RayField" = some m.cls := findClass_of_methodNamed B.named
  have hlocks := B.notSynchronized
  have hK := hE.2
  have S0 : CallFix p m c b_RF_isPlace 3 s [.int x, .int y, .int re].toArray BIG "RayField" := ⟨hx, hb, hml, hown, hts⟩
  have hl := lv_entry ([.int x, .int y, .int re]) (n := 3) (Nat.le_of_ble_eq_true rfl)
  rw [lg_entry_eq]
  generalize (lg_sl ([.int x, .int y, .int re]) ++ List.replicate (3 - (lg_sl ([.int x, .int y, .int re])).length) Slot.unset).toArray = ls at hl ⊢
  have hl : lv_has ls 3 [(0, .int x), (1, .int y), (2, .int re)] := hl
  refine lv_iload_n hx hb d_RF_isPlace_0 rfl (lv_at hl 0 rfl) ?_
  refine lv_iload_n hx hb d_RF_isPlace_1 rfl (lv_at hl 2 rfl) ?_
  refine lv_ineg hx hb d_RF_isPlace_2 ?_
  refine lv_iload_n hx hb d_RF_isPlace_3 rfl (lv_at hl 2 rfl) ?_
  refine vp_callSi (va_Run.run (rf_runS (As := [.int x, .int (-re), .int re]) (rest := []) S0 ml_RF_76 (c_RF_isBetween l D tys x (-re) re) hE trivial ⟨rfl, rfl, Nat.le_of_ble_eq_true rfl, Nat.le_of_ble_eq_true rfl⟩ rfl hl.1 rfl (Nat.le_of_ble_eq_true rfl) d_RF_isPlace_4 ⟨Nat.zero_le _, Nat.zero_le _⟩)) (fun r_1 h_2 => ?_)
  refine lv_if_eq (tgt := 24) hx hb d_RF_isPlace_7 (by decide) (fun c_3 => ?_) (fun c_3 => ?_)
  · refine lv_iconst (v := 0) hx hb d_RF_isPlace_24 (by decide) ?_
    exact W.zret (v := 0) (ty := .boolean) hx hb hr rfl (fun t ht hW => ⟨_, rfl, (rf_F (fun h => (h_2.f c_3) h.1)), ht⟩) (fun _ h => absurd h List.not_mem_nil) d_RF_isPlace_25
  · refine lv_iload_n hx hb d_RF_isPlace_10 rfl (lv_at hl 1 rfl) ?_
    refine lv_iload_n hx hb d_RF_isPlace_11 rfl (lv_at hl 2 rfl) ?_
    refine lv_ineg hx hb d_RF_isPlace_12 ?_
    refine lv_iload_n hx hb d_RF_isPlace_13 rfl (lv_at hl 2 rfl) ?_
    refine vp_callSi (va_Run.run (rf_runS (As := [.int y, .int (-re), .int re]) (rest := []) S0 ml_RF_76 (c_RF_isBetween l D tys y (-re) re) hE trivial ⟨rfl, rfl, Nat.le_of_ble_eq_true rfl, Nat.le_of_ble_eq_true rfl⟩ rfl hl.1 rfl (Nat.le_of_ble_eq_true rfl) d_RF_isPlace_14 ⟨Nat.zero_le _, Nat.zero_le _⟩)) (fun r_4 h_5 => ?_)
    refine lv_if_eq (tgt := 24) hx hb d_RF_isPlace_17 (by decide) (fun c_6 => ?_) (fun c_6 => ?_)
    · refine lv_iconst (v := 0) hx hb d_RF_isPlace_24 (by decide) ?_
      exact W.zret (v := 0) (ty := .boolean) hx hb hr rfl (fun t ht hW => ⟨_, rfl, (rf_F (fun h => (h_5.f c_6) h.2)), ht⟩) (fun _ h => absurd h List.not_mem_nil) d_RF_isPlace_25
    · refine lv_iconst (v := 1) hx hb d_RF_isPlace_20 (by decide) ?_
      refine lv_goto (tgt := 25) hx hb d_RF_isPlace_21 (by decide) ?_
      exact W.zret (v := 1) (ty := .boolean) hx hb hr rfl (fun t ht hW => ⟨_, rfl, (rf_T ⟨(h_2.t c_3), (h_5.t c_6)⟩), ht⟩) (fun _ h => absurd h List.not_mem_nil) d_RF_isPlace_25
set_option maxHeartbeats 4000000 in
set_option maxRecDepth 100000 in
theorem c_floorDiv (l : Launch) (D : va_G) (tys : List (ClassId × FieldType)) (x y : Int64) (hy : ¬ y = 0) : Met l y_Math_floorDiv (.code y_Math_floorDiv b_Math_floorDiv 6 (some (.long)) :: BIG) { frames := 0, cells := 0, slots := 0, locals := 0 } (rf_Pc D tys [.long x, .long y] (fun _ => True)) (vp_Sl (fun r => r = m_fdiv x y)) 0 0 (fun _ => False) := by
  refine rf_ofWF (cc := b_Math_floorDiv) (maxL := 6) (ret := (some (.long))) (by decide +kernel) rfl ?_
  intro p e s m args below meth c s₁ B hml hv
  obtain ⟨rfl, hE, hP⟩ := hv
  have hx := B.exec
  have hb := B.bytes
  have hr := B.returns
  have hts : ∀ w ∈ BIG, w.before [.long x, .long y].toArray s = true := fun w h => atoms_spec (ws := .code y_Math_floorDiv b_Math_floorDiv 6 (some (.long)) :: BIG) B.pre w (List.mem_cons_of_mem _ h)
  have hown : s.vm.findClass "java/lang/Math" = some m.cls := findClass_of_methodNamed B.named
  have hlocks := B.notSynchronized
  have hK := hE.2
  have S0 : CallFix p m c b_Math_floorDiv 6 s [.long x, .long y].toArray BIG "java/lang/Math" := ⟨hx, hb, hml, hown, hts⟩
  have hl := lv_entry ([.long x, .long y]) (n := 6) (Nat.le_of_ble_eq_true rfl)
  rw [lg_entry_eq]
  generalize (lg_sl ([.long x, .long y]) ++ List.replicate (6 - (lg_sl ([.long x, .long y])).length) Slot.unset).toArray = ls at hl ⊢
  have hl : lv_has ls 6 [(0, .long x), (2, .long y)] := hl
  refine lv_lload_n hx hb d_Math_floorDiv_0 rfl (lv_at hl 0 rfl) ?_
  refine lv_lload_n hx hb d_Math_floorDiv_1 rfl (lv_at hl 1 rfl) ?_
  refine lv_ldiv hx hb d_Math_floorDiv_2 hy ?_
  refine lv_lstore (lv' := [(4, .long (x / y)), (0, .long x), (2, .long y)]) hx hb d_Math_floorDiv_3 hl (by decide) rfl (fun ls hl => ?_)
  refine lv_lload_n hx hb d_Math_floorDiv_5 rfl (lv_at hl 1 rfl) ?_
  refine lv_lload_n hx hb d_Math_floorDiv_6 rfl (lv_at hl 2 rfl) ?_
  refine lv_lxor hx hb d_Math_floorDiv_7 ?_
  refine lv_lconst (v := 0) hx hb d_Math_floorDiv_8 (by decide) ?_
  refine rf_lcmp_ge (tgt := 27) hx hb d_Math_floorDiv_9 d_Math_floorDiv_10 (by decide) (fun c_1 => ?_) (fun c_1 => ?_)
  · refine lv_lload hx hb d_Math_floorDiv_27 (lv_at hl 0 rfl) ?_
    exact W.lret (v := x / y) hx hb hr (fun t ht hW => ⟨_, rfl, (if_neg (fun h => (Int64.not_lt.mpr c_1) h.1)).symm, ht⟩) (fun _ h => absurd h List.not_mem_nil) d_Math_floorDiv_29
  · refine lv_lload hx hb d_Math_floorDiv_13 (lv_at hl 0 rfl) ?_
    refine lv_lload_n hx hb d_Math_floorDiv_15 rfl (lv_at hl 2 rfl) ?_
    refine lv_lmul hx hb d_Math_floorDiv_16 ?_
    refine lv_lload_n hx hb d_Math_floorDiv_17 rfl (lv_at hl 1 rfl) ?_
    refine rf_lcmp_eq (tgt := 27) hx hb d_Math_floorDiv_18 d_Math_floorDiv_19 (by decide) (fun c_2 => ?_) (fun c_2 => ?_)
    · refine lv_lload hx hb d_Math_floorDiv_27 (lv_at hl 0 rfl) ?_
      exact W.lret (v := x / y) hx hb hr (fun t ht hW => ⟨_, rfl, (if_neg (fun h => h.2 c_2)).symm, ht⟩) (fun _ h => absurd h List.not_mem_nil) d_Math_floorDiv_29
    · refine lv_lload hx hb d_Math_floorDiv_22 (lv_at hl 0 rfl) ?_
      refine lv_lconst (v := 1) hx hb d_Math_floorDiv_24 (by decide) ?_
      refine lv_lsub hx hb d_Math_floorDiv_25 ?_
      exact W.lret (v := (x / y) - 1) hx hb hr (fun t ht hW => ⟨_, rfl, (if_pos ⟨(Int64.not_le.mp c_1), c_2⟩).symm, ht⟩) (fun _ h => absurd h List.not_mem_nil) d_Math_floorDiv_26
end
section
set_option maxHeartbeats 4000000 in
set_option maxRecDepth 100000 in
theorem c_Wall_side (l : Launch) (D : va_G) (tys : List (ClassId × FieldType)) (q : Nat) (w : Q4) (x y : Int32) : Met l y_Wall_side (.code y_Wall_side b_Wall_side 3 (some (.long)) :: BIG) { frames := 1, cells := 0, slots := 0, locals := 40 } (rf_Pc D tys [.ref q, .int x, .int y] (fun h => va_P D vwCl [(q, e_W w)] h)) (vp_Sl (fun r => r = m_side w x y)) 0 0 (fun _ => False) := by
  refine Met.ofW (cc := b_Wall_side) (maxL := 3) (ret := (some (.long))) (by decide) rfl ?_
  intro p e s m args below meth c s₁ B hml hv
  obtain ⟨rfl, hE, hP⟩ := hv
  have hx := B.exec
  have hb := B.bytes
  have hr := B.returns
  have hts : ∀ w ∈ BIG, w.before [.ref q, .int x, .int y].toArray s = true := fun w h => atoms_spec (ws := .code y_Wall_side b_Wall_side 3 (some (.long)) :: BIG) B.pre w (List.mem_cons_of_mem _ h)
  have hown : s.vm.findClass "RayField$Wall" = some m.cls := findClass_of_methodNamed B.named
  have hlocks := B.notSynchronized
  have hK := hE.2
  have S0 : CallFix p m c b_Wall_side 3 s [.ref q, .int x, .int y].toArray BIG "RayField$Wall" := ⟨hx, hb, hml, hown, hts⟩
  have hl := lv_entry ([.ref q, .int x, .int y]) (n := 3) (Nat.le_of_ble_eq_true rfl)
  rw [lg_entry_eq]
  generalize (lg_sl ([.ref q, .int x, .int y]) ++ List.replicate (3 - (lg_sl ([.ref q, .int x, .int y])).length) Slot.unset).toArray = ls at hl ⊢
  have hl : lv_has ls 3 [(0, .ref q), (1, .int x), (2, .int y)] := hl
  have hP : va_P D vwCl [(q, e_W w)] s.heap := hP
  refine lv_aload_n hx hb d_Wall_side_0 rfl (lv_at hl 0 rfl) ?_
  refine va_get (D := D) (ci := 0) (v := .int w.2.2.1) (C := "RayField$Wall") (T := F_Wall) (N := 4) hx hb hts in_Wall hown hK hP 0 rfl rfl 2 (by decide) (hts _ w_63) (fun _ h9 => h9) rfl d_Wall_side_1 ?_
  refine lv_aload_n hx hb d_Wall_side_4 rfl (lv_at hl 0 rfl) ?_
  refine va_get (D := D) (ci := 0) (v := .int w.1) (C := "RayField$Wall") (T := F_Wall) (N := 4) hx hb hts in_Wall hown hK hP 0 rfl rfl 0 (by decide) (hts _ w_57) (fun _ h9 => h9) rfl d_Wall_side_5 ?_
  refine lv_isub hx hb d_Wall_side_8 ?_
  refine lv_i2l hx hb d_Wall_side_9 rfl ?_
  refine lv_aload_n hx hb d_Wall_side_10 rfl (lv_at hl 0 rfl) ?_
  refine va_get (D := D) (ci := 0) (v := .int w.2.2.2) (C := "RayField$Wall") (T := F_Wall) (N := 4) hx hb hts in_Wall hown hK hP 0 rfl rfl 3 (by decide) (hts _ w_66) (fun _ h9 => h9) rfl d_Wall_side_11 ?_
  refine lv_aload_n hx hb d_Wall_side_14 rfl (lv_at hl 0 rfl) ?_
  refine va_get (D := D) (ci := 0) (v := .int w.2.1) (C := "RayField$Wall") (T := F_Wall) (N := 4) hx hb hts in_Wall hown hK hP 0 rfl rfl 1 (by decide) (hts _ w_60) (fun _ h9 => h9) rfl d_Wall_side_15 ?_
  refine lv_isub hx hb d_Wall_side_18 ?_
  refine lv_i2l hx hb d_Wall_side_19 rfl ?_
  refine lv_iload_n hx hb d_Wall_side_20 rfl (lv_at hl 1 rfl) ?_
  refine lv_aload_n hx hb d_Wall_side_21 rfl (lv_at hl 0 rfl) ?_
  refine va_get (D := D) (ci := 0) (v := .int w.1) (C := "RayField$Wall") (T := F_Wall) (N := 4) hx hb hts in_Wall hown hK hP 0 rfl rfl 0 (by decide) (hts _ w_57) (fun _ h9 => h9) rfl d_Wall_side_22 ?_
  refine lv_isub hx hb d_Wall_side_25 ?_
  refine lv_i2l hx hb d_Wall_side_26 rfl ?_
  refine lv_iload_n hx hb d_Wall_side_27 rfl (lv_at hl 2 rfl) ?_
  refine lv_aload_n hx hb d_Wall_side_28 rfl (lv_at hl 0 rfl) ?_
  refine va_get (D := D) (ci := 0) (v := .int w.2.1) (C := "RayField$Wall") (T := F_Wall) (N := 4) hx hb hts in_Wall hown hK hP 0 rfl rfl 1 (by decide) (hts _ w_60) (fun _ h9 => h9) rfl d_Wall_side_29 ?_
  refine lv_isub hx hb d_Wall_side_32 ?_
  refine lv_i2l hx hb d_Wall_side_33 rfl ?_
  refine vp_callSl (va_Run.run (rf_runSN (As := [.long ((w.2.2.1 - w.1).toInt64), .long ((w.2.2.2 - w.2.1).toInt64), .long ((x - w.1).toInt64), .long ((y - w.2.1).toInt64)]) (rest := []) S0 ml_Wall_22 (c_RF_cross l D tys ((w.2.2.1 - w.1).toInt64) ((w.2.2.2 - w.2.1).toInt64) ((x - w.1).toInt64) ((y - w.2.1).toInt64)) hE trivial ⟨rfl, rfl, Nat.le_of_ble_eq_true rfl, Nat.le_of_ble_eq_true rfl⟩ rfl hl.1 rfl (Nat.le_of_ble_eq_true rfl) d_Wall_side_34 ⟨Nat.zero_le _, Nat.zero_le _⟩)) (fun r_1 h_2 => ?_)
  subst h_2
  exact W.lret (v := m_cross ((w.2.2.1 - w.1).toInt64) ((w.2.2.2 - w.2.1).toInt64) ((x - w.1).toInt64) ((y - w.2.1).toInt64)) hx hb hr (fun t ht hW => ⟨_, rfl, rfl, ht⟩) (fun _ h => absurd h List.not_mem_nil) d_Wall_side_37
set_option maxHeartbeats 4000000 in
set_option maxRecDepth 100000 in
theorem c_Wall_covers (l : Launch) (D : va_G) (tys : List (ClassId × FieldType)) (q : Nat) (w : Q4) (x y : Int32) : Met l y_Wall_covers (.code y_Wall_covers b_Wall_covers 3 (some (.boolean)) :: BIG) { frames := 2, cells := 0, slots := 0, locals := 80 } (rf_Pc D tys [.ref q, .int x, .int y] (fun h => va_P D vwCl [(q, e_W w)] h)) (vp_Si (fun r => rf_tf r (m_cov w x y))) 0 0 (fun _ => False) := by
  refine Met.ofW (cc := b_Wall_covers) (maxL := 3) (ret := (some (.boolean))) (by decide) rfl ?_
  intro p e s m args below meth c s₁ B hml hv
  obtain ⟨rfl, hE, hP⟩ := hv
  have hx := B.exec
  have hb := B.bytes
  have hr := B.returns
  have hts : ∀ w ∈ BIG, w.before [.ref q, .int x, .int y].toArray s = true := fun w h => atoms_spec (ws := .code y_Wall_covers b_Wall_covers 3 (some (.boolean)) :: BIG) B.pre w (List.mem_cons_of_mem _ h)
  have hown : s.vm.findClass "RayField$Wall" = some m.cls := findClass_of_methodNamed B.named
  have hlocks := B.notSynchronized
  have hK := hE.2
  have S0 : CallFix p m c b_Wall_covers 3 s [.ref q, .int x, .int y].toArray BIG "RayField$Wall" := ⟨hx, hb, hml, hown, hts⟩
  have hl := lv_entry ([.ref q, .int x, .int y]) (n := 3) (Nat.le_of_ble_eq_true rfl)
  rw [lg_entry_eq]
  generalize (lg_sl ([.ref q, .int x, .int y]) ++ List.replicate (3 - (lg_sl ([.ref q, .int x, .int y])).length) Slot.unset).toArray = ls at hl ⊢
  have hl : lv_has ls 3 [(0, .ref q), (1, .int x), (2, .int y)] := hl
  have hP : va_P D vwCl [(q, e_W w)] s.heap := hP
  refine lv_aload_n hx hb d_Wall_covers_0 rfl (lv_at hl 0 rfl) ?_
  refine lv_iload_n hx hb d_Wall_covers_1 rfl (lv_at hl 1 rfl) ?_
  refine lv_iload_n hx hb d_Wall_covers_2 rfl (lv_at hl 2 rfl) ?_
  refine vp_callSl (va_Run.run (rf_runV (As := [.int x, .int y]) (rest := []) S0 ml_Wall_28 (c_Wall_side l D tys q w x y) hE (va_recv hK hP (ci := 0) (q0 := 0) rfl rfl) (hP.sub [0] rfl) ⟨rfl, rfl, Nat.le_of_ble_eq_true rfl, Nat.le_of_ble_eq_true rfl⟩ rfl hl.1 rfl (Nat.le_of_ble_eq_true rfl) d_Wall_covers_3 ⟨Nat.zero_le _, Nat.zero_le _⟩)) (fun r_1 h_2 => ?_)
  subst h_2
  refine lv_lconst (v := 0) hx hb d_Wall_covers_6 (by decide) ?_
  refine rf_lcmp_ne (tgt := 73) hx hb d_Wall_covers_7 d_Wall_covers_8 (by decide) (fun c_3 => ?_) (fun c_3 => ?_)
  · refine lv_iconst (v := 0) hx hb d_Wall_covers_73 (by decide) ?_
    exact W.zret (v := 0) (ty := .boolean) hx hb hr rfl (fun t ht hW => ⟨_, rfl, (rf_F (fun h => c_3 h.1)), ht⟩) (fun _ h => absurd h List.not_mem_nil) d_Wall_covers_74
  · refine lv_iload_n hx hb d_Wall_covers_11 rfl (lv_at hl 1 rfl) ?_
    refine lv_aload_n hx hb d_Wall_covers_12 rfl (lv_at hl 0 rfl) ?_
    refine va_get (D := D) (ci := 0) (v := .int w.1) (C := "RayField$Wall") (T := F_Wall) (N := 4) hx hb hts in_Wall hown hK hP 0 rfl rfl 0 (by decide) (hts _ w_57) (fun _ h9 => h9) rfl d_Wall_covers_13 ?_
    refine lv_aload_n hx hb d_Wall_covers_16 rfl (lv_at hl 0 rfl) ?_
    refine va_get (D := D) (ci := 0) (v := .int w.2.2.1) (C := "RayField$Wall") (T := F_Wall) (N := 4) hx hb hts in_Wall hown hK hP 0 rfl rfl 2 (by decide) (hts _ w_63) (fun _ h9 => h9) rfl d_Wall_covers_17 ?_
    refine va_mmin hx hb (hml.trans hl.1.symm) hown (hts _ w_100) (hts _ w_101) (hts _ w_4) (hts _ w_102) (Nat.le_of_ble_eq_true rfl) (Nat.le_of_ble_eq_true rfl) (Nat.zero_le _) (Nat.zero_le _) d_Wall_covers_20 ?_
    refine rf_topi (y := m_min w.1 w.2.2.1) rfl ?_
    refine lv_aload_n hx hb d_Wall_covers_23 rfl (lv_at hl 0 rfl) ?_
    refine va_get (D := D) (ci := 0) (v := .int w.1) (C := "RayField$Wall") (T := F_Wall) (N := 4) hx hb hts in_Wall hown hK hP 0 rfl rfl 0 (by decide) (hts _ w_57) (fun _ h9 => h9) rfl d_Wall_covers_24 ?_
    refine lv_aload_n hx hb d_Wall_covers_27 rfl (lv_at hl 0 rfl) ?_
    refine va_get (D := D) (ci := 0) (v := .int w.2.2.1) (C := "RayField$Wall") (T := F_Wall) (N := 4) hx hb hts in_Wall hown hK hP 0 rfl rfl 2 (by decide) (hts _ w_63) (fun _ h9 => h9) rfl d_Wall_covers_28 ?_
    refine va_mmax hx hb (hml.trans hl.1.symm) hown (hts _ w_103) (hts _ w_104) (hts _ w_4) (hts _ w_105) (Nat.le_of_ble_eq_true rfl) (Nat.le_of_ble_eq_true rfl) (Nat.zero_le _) (Nat.zero_le _) d_Wall_covers_31 ?_
    refine rf_topi (y := m_max w.1 w.2.2.1) rfl ?_
    refine vp_callSi (va_Run.run (rf_runSN (As := [.int x, .int (m_min w.1 w.2.2.1), .int (m_max w.1 w.2.2.1)]) (rest := []) S0 ml_Wall_41 (c_RF_isBetween l D tys x (m_min w.1 w.2.2.1) (m_max w.1 w.2.2.1)) hE trivial ⟨rfl, rfl, Nat.le_of_ble_eq_true rfl, Nat.le_of_ble_eq_true rfl⟩ rfl hl.1 rfl (Nat.le_of_ble_eq_true rfl) d_Wall_covers_34 ⟨Nat.zero_le _, Nat.zero_le _⟩)) (fun r_4 h_5 => ?_)
    refine lv_if_eq (tgt := 73) hx hb d_Wall_covers_37 (by decide) (fun c_6 => ?_) (fun c_6 => ?_)
    · refine lv_iconst (v := 0) hx hb d_Wall_covers_73 (by decide) ?_
      exact W.zret (v := 0) (ty := .boolean) hx hb hr rfl (fun t ht hW => ⟨_, rfl, (rf_F (fun h => (h_5.f c_6) h.2.1)), ht⟩) (fun _ h => absurd h List.not_mem_nil) d_Wall_covers_74
    · refine lv_iload_n hx hb d_Wall_covers_40 rfl (lv_at hl 2 rfl) ?_
      refine lv_aload_n hx hb d_Wall_covers_41 rfl (lv_at hl 0 rfl) ?_
      refine va_get (D := D) (ci := 0) (v := .int w.2.1) (C := "RayField$Wall") (T := F_Wall) (N := 4) hx hb hts in_Wall hown hK hP 0 rfl rfl 1 (by decide) (hts _ w_60) (fun _ h9 => h9) rfl d_Wall_covers_42 ?_
      refine lv_aload_n hx hb d_Wall_covers_45 rfl (lv_at hl 0 rfl) ?_
      refine va_get (D := D) (ci := 0) (v := .int w.2.2.2) (C := "RayField$Wall") (T := F_Wall) (N := 4) hx hb hts in_Wall hown hK hP 0 rfl rfl 3 (by decide) (hts _ w_66) (fun _ h9 => h9) rfl d_Wall_covers_46 ?_
      refine va_mmin hx hb (hml.trans hl.1.symm) hown (hts _ w_100) (hts _ w_101) (hts _ w_4) (hts _ w_102) (Nat.le_of_ble_eq_true rfl) (Nat.le_of_ble_eq_true rfl) (Nat.zero_le _) (Nat.zero_le _) d_Wall_covers_49 ?_
      refine rf_topi (y := m_min w.2.1 w.2.2.2) rfl ?_
      refine lv_aload_n hx hb d_Wall_covers_52 rfl (lv_at hl 0 rfl) ?_
      refine va_get (D := D) (ci := 0) (v := .int w.2.1) (C := "RayField$Wall") (T := F_Wall) (N := 4) hx hb hts in_Wall hown hK hP 0 rfl rfl 1 (by decide) (hts _ w_60) (fun _ h9 => h9) rfl d_Wall_covers_53 ?_
      refine lv_aload_n hx hb d_Wall_covers_56 rfl (lv_at hl 0 rfl) ?_
      refine va_get (D := D) (ci := 0) (v := .int w.2.2.2) (C := "RayField$Wall") (T := F_Wall) (N := 4) hx hb hts in_Wall hown hK hP 0 rfl rfl 3 (by decide) (hts _ w_66) (fun _ h9 => h9) rfl d_Wall_covers_57 ?_
      refine va_mmax hx hb (hml.trans hl.1.symm) hown (hts _ w_103) (hts _ w_104) (hts _ w_4) (hts _ w_105) (Nat.le_of_ble_eq_true rfl) (Nat.le_of_ble_eq_true rfl) (Nat.zero_le _) (Nat.zero_le _) d_Wall_covers_60 ?_
      refine rf_topi (y := m_max w.2.1 w.2.2.2) rfl ?_
      refine vp_callSi (va_Run.run (rf_runSN (As := [.int y, .int (m_min w.2.1 w.2.2.2), .int (m_max w.2.1 w.2.2.2)]) (rest := []) S0 ml_Wall_41 (c_RF_isBetween l D tys y (m_min w.2.1 w.2.2.2) (m_max w.2.1 w.2.2.2)) hE trivial ⟨rfl, rfl, Nat.le_of_ble_eq_true rfl, Nat.le_of_ble_eq_true rfl⟩ rfl hl.1 rfl (Nat.le_of_ble_eq_true rfl) d_Wall_covers_63 ⟨Nat.zero_le _, Nat.zero_le _⟩)) (fun r_7 h_8 => ?_)
      refine lv_if_eq (tgt := 73) hx hb d_Wall_covers_66 (by decide) (fun c_9 => ?_) (fun c_9 => ?_)
      · refine lv_iconst (v := 0) hx hb d_Wall_covers_73 (by decide) ?_
        exact W.zret (v := 0) (ty := .boolean) hx hb hr rfl (fun t ht hW => ⟨_, rfl, (rf_F (fun h => (h_8.f c_9) h.2.2)), ht⟩) (fun _ h => absurd h List.not_mem_nil) d_Wall_covers_74
      · refine lv_iconst (v := 1) hx hb d_Wall_covers_69 (by decide) ?_
        refine lv_goto (tgt := 74) hx hb d_Wall_covers_70 (by decide) ?_
        exact W.zret (v := 1) (ty := .boolean) hx hb hr rfl (fun t ht hW => ⟨_, rfl, (rf_T ⟨c_3, (h_5.t c_6), (h_8.t c_9)⟩), ht⟩) (fun _ h => absurd h List.not_mem_nil) d_Wall_covers_74
set_option maxHeartbeats 4000000 in
set_option maxRecDepth 100000 in
theorem c_Wall_hasEnd (l : Launch) (D : va_G) (tys : List (ClassId × FieldType)) (q : Nat) (w : Q4) (x y : Int32) : Met l y_Wall_hasEnd (.code y_Wall_hasEnd b_Wall_hasEnd 3 (some (.boolean)) :: BIG) { frames := 0, cells := 0, slots := 0, locals := 0 } (rf_Pc D tys [.ref q, .int x, .int y] (fun h => va_P D vwCl [(q, e_W w)] h)) (vp_Si (fun r => rf_tf r (m_end w x y))) 0 0 (fun _ => False) := by
  refine Met.ofW (cc := b_Wall_hasEnd) (maxL := 3) (ret := (some (.boolean))) (by decide) rfl ?_
  intro p e s m args below meth c s₁ B hml hv
  obtain ⟨rfl, hE, hP⟩ := hv
  have hx := B.exec
  have hb := B.bytes
  have hr := B.returns
  have hts : ∀ w ∈ BIG, w.before [.ref q, .int x, .int y].toArray s = true := fun w h => atoms_spec (ws := .code y_Wall_hasEnd b_Wall_hasEnd 3 (some (.boolean)) :: BIG) B.pre w (List.mem_cons_of_mem _ h)
  have hown : s.vm.findClass "RayField$Wall" = some m.cls := findClass_of_methodNamed B.named
  have hlocks := B.notSynchronized
  have hK := hE.2
  have S0 : CallFix p m c b_Wall_hasEnd 3 s [.ref q, .int x, .int y].toArray BIG "RayField$Wall" := ⟨hx, hb, hml, hown, hts⟩
  have hl := lv_entry ([.ref q, .int x, .int y]) (n := 3) (Nat.le_of_ble_eq_true rfl)
  rw [lg_entry_eq]
  generalize (lg_sl ([.ref q, .int x, .int y]) ++ List.replicate (3 - (lg_sl ([.ref q, .int x, .int y])).length) Slot.unset).toArray = ls at hl ⊢
  have hl : lv_has ls 3 [(0, .ref q), (1, .int x), (2, .int y)] := hl
  have hP : va_P D vwCl [(q, e_W w)] s.heap := hP
  refine lv_iload_n hx hb d_Wall_hasEnd_0 rfl (lv_at hl 1 rfl) ?_
  refine lv_aload_n hx hb d_Wall_hasEnd_1 rfl (lv_at hl 0 rfl) ?_
  refine va_get (D := D) (ci := 0) (v := .int w.1) (C := "RayField$Wall") (T := F_Wall) (N := 4) hx hb hts in_Wall hown hK hP 0 rfl rfl 0 (by decide) (hts _ w_57) (fun _ h9 => h9) rfl d_Wall_hasEnd_2 ?_
  refine lv_icmp_ne (tgt := 16) hx hb d_Wall_hasEnd_5 (by decide) (fun c_1 => ?_) (fun c_1 => ?_)
  · refine lv_iload_n hx hb d_Wall_hasEnd_16 rfl (lv_at hl 1 rfl) ?_
    refine lv_aload_n hx hb d_Wall_hasEnd_17 rfl (lv_at hl 0 rfl) ?_
    refine va_get (D := D) (ci := 0) (v := .int w.2.2.1) (C := "RayField$Wall") (T := F_Wall) (N := 4) hx hb hts in_Wall hown hK hP 0 rfl rfl 2 (by decide) (hts _ w_63) (fun _ h9 => h9) rfl d_Wall_hasEnd_18 ?_
    refine lv_icmp_ne (tgt := 36) hx hb d_Wall_hasEnd_21 (by decide) (fun c_2 => ?_) (fun c_2 => ?_)
    · refine lv_iconst (v := 0) hx hb d_Wall_hasEnd_36 (by decide) ?_
      exact W.zret (v := 0) (ty := .boolean) hx hb hr rfl (fun t ht hW => ⟨_, rfl, (rf_F (fun h => h.elim (fun h => c_1 h.1) (fun h => c_2 h.1))), ht⟩) (fun _ h => absurd h List.not_mem_nil) d_Wall_hasEnd_37
    · refine lv_iload_n hx hb d_Wall_hasEnd_24 rfl (lv_at hl 2 rfl) ?_
      refine lv_aload_n hx hb d_Wall_hasEnd_25 rfl (lv_at hl 0 rfl) ?_
      refine va_get (D := D) (ci := 0) (v := .int w.2.2.2) (C := "RayField$Wall") (T := F_Wall) (N := 4) hx hb hts in_Wall hown hK hP 0 rfl rfl 3 (by decide) (hts _ w_66) (fun _ h9 => h9) rfl d_Wall_hasEnd_26 ?_
      refine lv_icmp_ne (tgt := 36) hx hb d_Wall_hasEnd_29 (by decide) (fun c_3 => ?_) (fun c_3 => ?_)
      · refine lv_iconst (v := 0) hx hb d_Wall_hasEnd_36 (by decide) ?_
        exact W.zret (v := 0) (ty := .boolean) hx hb hr rfl (fun t ht hW => ⟨_, rfl, (rf_F (fun h => h.elim (fun h => c_1 h.1) (fun h => c_3 h.2))), ht⟩) (fun _ h => absurd h List.not_mem_nil) d_Wall_hasEnd_37
      · refine lv_iconst (v := 1) hx hb d_Wall_hasEnd_32 (by decide) ?_
        refine lv_goto (tgt := 37) hx hb d_Wall_hasEnd_33 (by decide) ?_
        exact W.zret (v := 1) (ty := .boolean) hx hb hr rfl (fun t ht hW => ⟨_, rfl, (rf_T (Or.inr ⟨c_2, c_3⟩)), ht⟩) (fun _ h => absurd h List.not_mem_nil) d_Wall_hasEnd_37
  · refine lv_iload_n hx hb d_Wall_hasEnd_8 rfl (lv_at hl 2 rfl) ?_
    refine lv_aload_n hx hb d_Wall_hasEnd_9 rfl (lv_at hl 0 rfl) ?_
    refine va_get (D := D) (ci := 0) (v := .int w.2.1) (C := "RayField$Wall") (T := F_Wall) (N := 4) hx hb hts in_Wall hown hK hP 0 rfl rfl 1 (by decide) (hts _ w_60) (fun _ h9 => h9) rfl d_Wall_hasEnd_10 ?_
    refine lv_icmp_eq (tgt := 32) hx hb d_Wall_hasEnd_13 (by decide) (fun c_4 => ?_) (fun c_4 => ?_)
    · refine lv_iconst (v := 1) hx hb d_Wall_hasEnd_32 (by decide) ?_
      refine lv_goto (tgt := 37) hx hb d_Wall_hasEnd_33 (by decide) ?_
      exact W.zret (v := 1) (ty := .boolean) hx hb hr rfl (fun t ht hW => ⟨_, rfl, (rf_T (Or.inl ⟨c_1, c_4⟩)), ht⟩) (fun _ h => absurd h List.not_mem_nil) d_Wall_hasEnd_37
    · refine lv_iload_n hx hb d_Wall_hasEnd_16 rfl (lv_at hl 1 rfl) ?_
      refine lv_aload_n hx hb d_Wall_hasEnd_17 rfl (lv_at hl 0 rfl) ?_
      refine va_get (D := D) (ci := 0) (v := .int w.2.2.1) (C := "RayField$Wall") (T := F_Wall) (N := 4) hx hb hts in_Wall hown hK hP 0 rfl rfl 2 (by decide) (hts _ w_63) (fun _ h9 => h9) rfl d_Wall_hasEnd_18 ?_
      refine lv_icmp_ne (tgt := 36) hx hb d_Wall_hasEnd_21 (by decide) (fun c_5 => ?_) (fun c_5 => ?_)
      · refine lv_iconst (v := 0) hx hb d_Wall_hasEnd_36 (by decide) ?_
        exact W.zret (v := 0) (ty := .boolean) hx hb hr rfl (fun t ht hW => ⟨_, rfl, (rf_F (fun h => h.elim (fun h => c_4 h.2) (fun h => c_5 h.1))), ht⟩) (fun _ h => absurd h List.not_mem_nil) d_Wall_hasEnd_37
      · refine lv_iload_n hx hb d_Wall_hasEnd_24 rfl (lv_at hl 2 rfl) ?_
        refine lv_aload_n hx hb d_Wall_hasEnd_25 rfl (lv_at hl 0 rfl) ?_
        refine va_get (D := D) (ci := 0) (v := .int w.2.2.2) (C := "RayField$Wall") (T := F_Wall) (N := 4) hx hb hts in_Wall hown hK hP 0 rfl rfl 3 (by decide) (hts _ w_66) (fun _ h9 => h9) rfl d_Wall_hasEnd_26 ?_
        refine lv_icmp_ne (tgt := 36) hx hb d_Wall_hasEnd_29 (by decide) (fun c_6 => ?_) (fun c_6 => ?_)
        · refine lv_iconst (v := 0) hx hb d_Wall_hasEnd_36 (by decide) ?_
          exact W.zret (v := 0) (ty := .boolean) hx hb hr rfl (fun t ht hW => ⟨_, rfl, (rf_F (fun h => h.elim (fun h => c_4 h.2) (fun h => c_6 h.2))), ht⟩) (fun _ h => absurd h List.not_mem_nil) d_Wall_hasEnd_37
        · refine lv_iconst (v := 1) hx hb d_Wall_hasEnd_32 (by decide) ?_
          refine lv_goto (tgt := 37) hx hb d_Wall_hasEnd_33 (by decide) ?_
          exact W.zret (v := 1) (ty := .boolean) hx hb hr rfl (fun t ht hW => ⟨_, rfl, (rf_T (Or.inr ⟨c_5, c_6⟩)), ht⟩) (fun _ h => absurd h List.not_mem_nil) d_Wall_hasEnd_37
set_option maxHeartbeats 4000000 in
set_option maxRecDepth 100000 in
theorem c_Wall_commonLength (l : Launch) (D : va_G) (tys : List (ClassId × FieldType)) (x1 x2 x3 x4 : Int32) : Met l y_Wall_commonLength (.code y_Wall_commonLength b_Wall_commonLength 6 (some (.int)) :: BIG) { frames := 1, cells := 0, slots := 0, locals := 40 } (rf_Pc D tys [.int x1, .int x2, .int x3, .int x4] (fun _ => True)) (vp_Si (fun r => r = m_len x1 x2 x3 x4)) 0 0 (fun _ => False) := by
  refine Met.ofW (cc := b_Wall_commonLength) (maxL := 6) (ret := (some (.int))) (by decide) rfl ?_
  intro p e s m args below meth c s₁ B hml hv
  obtain ⟨rfl, hE, hP⟩ := hv
  have hx := B.exec
  have hb := B.bytes
  have hr := B.returns
  have hts : ∀ w ∈ BIG, w.before [.int x1, .int x2, .int x3, .int x4].toArray s = true := fun w h => atoms_spec (ws := .code y_Wall_commonLength b_Wall_commonLength 6 (some (.int)) :: BIG) B.pre w (List.mem_cons_of_mem _ h)
  have hown : s.vm.findClass "RayField$Wall" = some m.cls := findClass_of_methodNamed B.named
  have hlocks := B.notSynchronized
  have hK := hE.2
  have S0 : CallFix p m c b_Wall_commonLength 6 s [.int x1, .int x2, .int x3, .int x4].toArray BIG "RayField$Wall" := ⟨hx, hb, hml, hown, hts⟩
  have hl := lv_entry ([.int x1, .int x2, .int x3, .int x4]) (n := 6) (Nat.le_of_ble_eq_true rfl)
  rw [lg_entry_eq]
  generalize (lg_sl ([.int x1, .int x2, .int x3, .int x4]) ++ List.replicate (6 - (lg_sl ([.int x1, .int x2, .int x3, .int x4])).length) Slot.unset).toArray = ls at hl ⊢
  have hl : lv_has ls 6 [(0, .int x1), (1, .int x2), (2, .int x3), (3, .int x4)] := hl
  refine lv_iload_n hx hb d_Wall_commonLength_0 rfl (lv_at hl 0 rfl) ?_
  refine lv_iload_n hx hb d_Wall_commonLength_1 rfl (lv_at hl 1 rfl) ?_
  refine va_mmin hx hb (hml.trans hl.1.symm) hown (hts _ w_100) (hts _ w_101) (hts _ w_4) (hts _ w_102) (Nat.le_of_ble_eq_true rfl) (Nat.le_of_ble_eq_true rfl) (Nat.zero_le _) (Nat.zero_le _) d_Wall_commonLength_2 ?_
  refine rf_topi (y := m_min x1 x2) rfl ?_
  refine lv_iload_n hx hb d_Wall_commonLength_5 rfl (lv_at hl 2 rfl) ?_
  refine lv_iload_n hx hb d_Wall_commonLength_6 rfl (lv_at hl 3 rfl) ?_
  refine va_mmin hx hb (hml.trans hl.1.symm) hown (hts _ w_100) (hts _ w_101) (hts _ w_4) (hts _ w_102) (Nat.le_of_ble_eq_true rfl) (Nat.le_of_ble_eq_true rfl) (Nat.zero_le _) (Nat.zero_le _) d_Wall_commonLength_7 ?_
  refine rf_topi (y := m_min x3 x4) rfl ?_
  refine va_mmax hx hb (hml.trans hl.1.symm) hown (hts _ w_103) (hts _ w_104) (hts _ w_4) (hts _ w_105) (Nat.le_of_ble_eq_true rfl) (Nat.le_of_ble_eq_true rfl) (Nat.zero_le _) (Nat.zero_le _) d_Wall_commonLength_10 ?_
  refine rf_topi (y := m_max (m_min x1 x2) (m_min x3 x4)) rfl ?_
  refine lv_istore (lv' := [(4, .int (m_max (m_min x1 x2) (m_min x3 x4))), (0, .int x1), (1, .int x2), (2, .int x3), (3, .int x4)]) hx hb d_Wall_commonLength_13 hl (by decide) rfl (fun ls hl => ?_)
  refine lv_iload_n hx hb d_Wall_commonLength_15 rfl (lv_at hl 1 rfl) ?_
  refine lv_iload_n hx hb d_Wall_commonLength_16 rfl (lv_at hl 2 rfl) ?_
  refine va_mmax hx hb (hml.trans hl.1.symm) hown (hts _ w_103) (hts _ w_104) (hts _ w_4) (hts _ w_105) (Nat.le_of_ble_eq_true rfl) (Nat.le_of_ble_eq_true rfl) (Nat.zero_le _) (Nat.zero_le _) d_Wall_commonLength_17 ?_
  refine rf_topi (y := m_max x1 x2) rfl ?_
  refine lv_iload_n hx hb d_Wall_commonLength_20 rfl (lv_at hl 3 rfl) ?_
  refine lv_iload_n hx hb d_Wall_commonLength_21 rfl (lv_at hl 4 rfl) ?_
  refine va_mmax hx hb (hml.trans hl.1.symm) hown (hts _ w_103) (hts _ w_104) (hts _ w_4) (hts _ w_105) (Nat.le_of_ble_eq_true rfl) (Nat.le_of_ble_eq_true rfl) (Nat.zero_le _) (Nat.zero_le _) d_Wall_commonLength_22 ?_
  refine rf_topi (y := m_max x3 x4) rfl ?_
  refine va_mmin hx hb (hml.trans hl.1.symm) hown (hts _ w_100) (hts _ w_101) (hts _ w_4) (hts _ w_102) (Nat.le_of_ble_eq_true rfl) (Nat.le_of_ble_eq_true rfl) (Nat.zero_le _) (Nat.zero_le _) d_Wall_commonLength_25 ?_
  refine rf_topi (y := m_min (m_max x1 x2) (m_max x3 x4)) rfl ?_
  refine lv_istore (lv' := [(5, .int (m_min (m_max x1 x2) (m_max x3 x4))), (4, .int (m_max (m_min x1 x2) (m_min x3 x4))), (0, .int x1), (1, .int x2), (2, .int x3), (3, .int x4)]) hx hb d_Wall_commonLength_28 hl (by decide) rfl (fun ls hl => ?_)
  refine lv_iload hx hb d_Wall_commonLength_30 (lv_at hl 0 rfl) ?_
  refine lv_iload hx hb d_Wall_commonLength_32 (lv_at hl 1 rfl) ?_
  refine lv_isub hx hb d_Wall_commonLength_34 ?_
  exact W.iret (v := (m_min (m_max x1 x2) (m_max x3 x4)) - (m_max (m_min x1 x2) (m_min x3 x4))) hx hb hr (fun t ht hW => ⟨_, rfl, rfl, ht⟩) (fun _ h => absurd h List.not_mem_nil) d_Wall_commonLength_35
set_option maxHeartbeats 4000000 in
set_option maxRecDepth 100000 in
theorem c_Wall_overlaps (l : Launch) (D : va_G) (tys : List (ClassId × FieldType)) (q q2 : Nat) (v w : Q4) : Met l y_Wall_overlapsOnItsLine (.code y_Wall_overlapsOnItsLine b_Wall_overlapsOnItsLine 2 (some (.boolean)) :: BIG) { frames := 2, cells := 0, slots := 0, locals := 80 } (rf_Pc D tys [.ref q, .ref q2] (fun h => va_P D vwCl [(q, e_W v), (q2, e_W w)] h)) (vp_Si (fun r => rf_tf r (m_ovl v w))) 0 0 (fun _ => False) := by
  refine Met.ofW (cc := b_Wall_overlapsOnItsLine) (maxL := 2) (ret := (some (.boolean))) (by decide) rfl ?_
  intro p e s m args below meth c s₁ B hml hv
  obtain ⟨rfl, hE, hP⟩ := hv
  have hx := B.exec
  have hb := B.bytes
  have hr := B.returns
  have hts : ∀ w ∈ BIG, w.before [.ref q, .ref q2].toArray s = true := fun w h => atoms_spec (ws := .code y_Wall_overlapsOnItsLine b_Wall_overlapsOnItsLine 2 (some (.boolean)) :: BIG) B.pre w (List.mem_cons_of_mem _ h)
  have hown : s.vm.findClass "RayField$Wall" = some m.cls := findClass_of_methodNamed B.named
  have hlocks := B.notSynchronized
  have hK := hE.2
  have S0 : CallFix p m c b_Wall_overlapsOnItsLine 2 s [.ref q, .ref q2].toArray BIG "RayField$Wall" := ⟨hx, hb, hml, hown, hts⟩
  have hl := lv_entry ([.ref q, .ref q2]) (n := 2) (Nat.le_of_ble_eq_true rfl)
  rw [lg_entry_eq]
  generalize (lg_sl ([.ref q, .ref q2]) ++ List.replicate (2 - (lg_sl ([.ref q, .ref q2])).length) Slot.unset).toArray = ls at hl ⊢
  have hl : lv_has ls 2 [(0, .ref q), (1, .ref q2)] := hl
  have hP : va_P D vwCl [(q, e_W v), (q2, e_W w)] s.heap := hP
  refine lv_aload_n hx hb d_Wall_overlapsOnItsLine_0 rfl (lv_at hl 0 rfl) ?_
  refine va_get (D := D) (ci := 0) (v := .int v.1) (C := "RayField$Wall") (T := F_Wall) (N := 4) hx hb hts in_Wall hown hK hP 0 rfl rfl 0 (by decide) (hts _ w_57) (fun _ h9 => h9) rfl d_Wall_overlapsOnItsLine_1 ?_
  refine lv_aload_n hx hb d_Wall_overlapsOnItsLine_4 rfl (lv_at hl 0 rfl) ?_
  refine va_get (D := D) (ci := 0) (v := .int v.2.2.1) (C := "RayField$Wall") (T := F_Wall) (N := 4) hx hb hts in_Wall hown hK hP 0 rfl rfl 2 (by decide) (hts _ w_63) (fun _ h9 => h9) rfl d_Wall_overlapsOnItsLine_5 ?_
  refine lv_aload_n hx hb d_Wall_overlapsOnItsLine_8 rfl (lv_at hl 1 rfl) ?_
  refine va_get (D := D) (ci := 0) (v := .int w.1) (C := "RayField$Wall") (T := F_Wall) (N := 4) hx hb hts in_Wall hown hK hP 1 rfl rfl 0 (by decide) (hts _ w_57) (fun _ h9 => h9) rfl d_Wall_overlapsOnItsLine_9 ?_
  refine lv_aload_n hx hb d_Wall_overlapsOnItsLine_12 rfl (lv_at hl 1 rfl) ?_
  refine va_get (D := D) (ci := 0) (v := .int w.2.2.1) (C := "RayField$Wall") (T := F_Wall) (N := 4) hx hb hts in_Wall hown hK hP 1 rfl rfl 2 (by decide) (hts _ w_63) (fun _ h9 => h9) rfl d_Wall_overlapsOnItsLine_13 ?_
  refine vp_callSi (va_Run.run (rf_runS (As := [.int v.1, .int v.2.2.1, .int w.1, .int w.2.2.1]) (rest := []) S0 ml_Wall_52 (c_Wall_commonLength l D tys v.1 v.2.2.1 w.1 w.2.2.1) hE trivial ⟨rfl, rfl, Nat.le_of_ble_eq_true rfl, Nat.le_of_ble_eq_true rfl⟩ rfl hl.1 rfl (Nat.le_of_ble_eq_true rfl) d_Wall_overlapsOnItsLine_16 ⟨Nat.zero_le _, Nat.zero_le _⟩)) (fun r_1 h_2 => ?_)
  subst h_2
  refine lv_if_gt (tgt := 44) hx hb d_Wall_overlapsOnItsLine_19 (by decide) (fun c_3 => ?_) (fun c_3 => ?_)
  · refine lv_iconst (v := 1) hx hb d_Wall_overlapsOnItsLine_44 (by decide) ?_
    refine lv_goto (tgt := 49) hx hb d_Wall_overlapsOnItsLine_45 (by decide) ?_
    exact W.zret (v := 1) (ty := .boolean) hx hb hr rfl (fun t ht hW => ⟨_, rfl, (rf_T (Or.inl c_3)), ht⟩) (fun _ h => absurd h List.not_mem_nil) d_Wall_overlapsOnItsLine_49
  · refine lv_aload_n hx hb d_Wall_overlapsOnItsLine_22 rfl (lv_at hl 0 rfl) ?_
    refine va_get (D := D) (ci := 0) (v := .int v.2.1) (C := "RayField$Wall") (T := F_Wall) (N := 4) hx hb hts in_Wall hown hK hP 0 rfl rfl 1 (by decide) (hts _ w_60) (fun _ h9 => h9) rfl d_Wall_overlapsOnItsLine_23 ?_
    refine lv_aload_n hx hb d_Wall_overlapsOnItsLine_26 rfl (lv_at hl 0 rfl) ?_
    refine va_get (D := D) (ci := 0) (v := .int v.2.2.2) (C := "RayField$Wall") (T := F_Wall) (N := 4) hx hb hts in_Wall hown hK hP 0 rfl rfl 3 (by decide) (hts _ w_66) (fun _ h9 => h9) rfl d_Wall_overlapsOnItsLine_27 ?_
    refine lv_aload_n hx hb d_Wall_overlapsOnItsLine_30 rfl (lv_at hl 1 rfl) ?_
    refine va_get (D := D) (ci := 0) (v := .int w.2.1) (C := "RayField$Wall") (T := F_Wall) (N := 4) hx hb hts in_Wall hown hK hP 1 rfl rfl 1 (by decide) (hts _ w_60) (fun _ h9 => h9) rfl d_Wall_overlapsOnItsLine_31 ?_
    refine lv_aload_n hx hb d_Wall_overlapsOnItsLine_34 rfl (lv_at hl 1 rfl) ?_
    refine va_get (D := D) (ci := 0) (v := .int w.2.2.2) (C := "RayField$Wall") (T := F_Wall) (N := 4) hx hb hts in_Wall hown hK hP 1 rfl rfl 3 (by decide) (hts _ w_66) (fun _ h9 => h9) rfl d_Wall_overlapsOnItsLine_35 ?_
    refine vp_callSi (va_Run.run (rf_runS (As := [.int v.2.1, .int v.2.2.2, .int w.2.1, .int w.2.2.2]) (rest := []) S0 ml_Wall_52 (c_Wall_commonLength l D tys v.2.1 v.2.2.2 w.2.1 w.2.2.2) hE trivial ⟨rfl, rfl, Nat.le_of_ble_eq_true rfl, Nat.le_of_ble_eq_true rfl⟩ rfl hl.1 rfl (Nat.le_of_ble_eq_true rfl) d_Wall_overlapsOnItsLine_38 ⟨Nat.zero_le _, Nat.zero_le _⟩)) (fun r_4 h_5 => ?_)
    subst h_5
    refine lv_if_le (tgt := 48) hx hb d_Wall_overlapsOnItsLine_41 (by decide) (fun c_6 => ?_) (fun c_6 => ?_)
    · refine lv_iconst (v := 0) hx hb d_Wall_overlapsOnItsLine_48 (by decide) ?_
      exact W.zret (v := 0) (ty := .boolean) hx hb hr rfl (fun t ht hW => ⟨_, rfl, (rf_F (fun h => h.elim c_3 (Int32.not_lt.mpr c_6))), ht⟩) (fun _ h => absurd h List.not_mem_nil) d_Wall_overlapsOnItsLine_49
    · refine lv_iconst (v := 1) hx hb d_Wall_overlapsOnItsLine_44 (by decide) ?_
      refine lv_goto (tgt := 49) hx hb d_Wall_overlapsOnItsLine_45 (by decide) ?_
      exact W.zret (v := 1) (ty := .boolean) hx hb hr rfl (fun t ht hW => ⟨_, rfl, (rf_T (Or.inr (Int32.not_le.mp c_6))), ht⟩) (fun _ h => absurd h List.not_mem_nil) d_Wall_overlapsOnItsLine_49
set_option maxHeartbeats 4000000 in
set_option maxRecDepth 100000 in
theorem c_Wall_shares (l : Launch) (D : va_G) (tys : List (ClassId × FieldType)) (q q2 : Nat) (v w : Q4) : Met l y_Wall_sharesEndWith (.code y_Wall_sharesEndWith b_Wall_sharesEndWith 2 (some (.boolean)) :: BIG) { frames := 1, cells := 0, slots := 0, locals := 40 } (rf_Pc D tys [.ref q, .ref q2] (fun h => va_P D vwCl [(q, e_W v), (q2, e_W w)] h)) (vp_Si (fun r => rf_tf r (m_shares v w))) 0 0 (fun _ => False) := by
  refine Met.ofW (cc := b_Wall_sharesEndWith) (maxL := 2) (ret := (some (.boolean))) (by decide) rfl ?_
  intro p e s m args below meth c s₁ B hml hv
  obtain ⟨rfl, hE, hP⟩ := hv
  have hx := B.exec
  have hb := B.bytes
  have hr := B.returns
  have hts : ∀ w ∈ BIG, w.before [.ref q, .ref q2].toArray s = true := fun w h => atoms_spec (ws := .code y_Wall_sharesEndWith b_Wall_sharesEndWith 2 (some (.boolean)) :: BIG) B.pre w (List.mem_cons_of_mem _ h)
  have hown : s.vm.findClass "RayField$Wall" = some m.cls := findClass_of_methodNamed B.named
  have hlocks := B.notSynchronized
  have hK := hE.2
  have S0 : CallFix p m c b_Wall_sharesEndWith 2 s [.ref q, .ref q2].toArray BIG "RayField$Wall" := ⟨hx, hb, hml, hown, hts⟩
  have hl := lv_entry ([.ref q, .ref q2]) (n := 2) (Nat.le_of_ble_eq_true rfl)
  rw [lg_entry_eq]
  generalize (lg_sl ([.ref q, .ref q2]) ++ List.replicate (2 - (lg_sl ([.ref q, .ref q2])).length) Slot.unset).toArray = ls at hl ⊢
  have hl : lv_has ls 2 [(0, .ref q), (1, .ref q2)] := hl
  have hP : va_P D vwCl [(q, e_W v), (q2, e_W w)] s.heap := hP
  refine lv_aload_n hx hb d_Wall_sharesEndWith_0 rfl (lv_at hl 1 rfl) ?_
  refine lv_aload_n hx hb d_Wall_sharesEndWith_1 rfl (lv_at hl 0 rfl) ?_
  refine va_get (D := D) (ci := 0) (v := .int v.1) (C := "RayField$Wall") (T := F_Wall) (N := 4) hx hb hts in_Wall hown hK hP 0 rfl rfl 0 (by decide) (hts _ w_57) (fun _ h9 => h9) rfl d_Wall_sharesEndWith_2 ?_
  refine lv_aload_n hx hb d_Wall_sharesEndWith_5 rfl (lv_at hl 0 rfl) ?_
  refine va_get (D := D) (ci := 0) (v := .int v.2.1) (C := "RayField$Wall") (T := F_Wall) (N := 4) hx hb hts in_Wall hown hK hP 0 rfl rfl 1 (by decide) (hts _ w_60) (fun _ h9 => h9) rfl d_Wall_sharesEndWith_6 ?_
  refine vp_callSi (va_Run.run (rf_runV (As := [.int v.1, .int v.2.1]) (rest := []) S0 ml_Wall_56 (c_Wall_hasEnd l D tys q2 w v.1 v.2.1) hE (va_recv hK hP (ci := 0) (q0 := 1) rfl rfl) (hP.sub [1] rfl) ⟨rfl, rfl, Nat.le_of_ble_eq_true rfl, Nat.le_of_ble_eq_true rfl⟩ rfl hl.1 rfl (Nat.le_of_ble_eq_true rfl) d_Wall_sharesEndWith_9 ⟨Nat.zero_le _, Nat.zero_le _⟩)) (fun r_1 h_2 => ?_)
  refine lv_if_ne (tgt := 30) hx hb d_Wall_sharesEndWith_12 (by decide) (fun c_3 => ?_) (fun c_3 => ?_)
  · refine lv_iconst (v := 1) hx hb d_Wall_sharesEndWith_30 (by decide) ?_
    refine lv_goto (tgt := 35) hx hb d_Wall_sharesEndWith_31 (by decide) ?_
    exact W.zret (v := 1) (ty := .boolean) hx hb hr rfl (fun t ht hW => ⟨_, rfl, (rf_T (Or.inl (h_2.t c_3))), ht⟩) (fun _ h => absurd h List.not_mem_nil) d_Wall_sharesEndWith_35
  · refine lv_aload_n hx hb d_Wall_sharesEndWith_15 rfl (lv_at hl 1 rfl) ?_
    refine lv_aload_n hx hb d_Wall_sharesEndWith_16 rfl (lv_at hl 0 rfl) ?_
    refine va_get (D := D) (ci := 0) (v := .int v.2.2.1) (C := "RayField$Wall") (T := F_Wall) (N := 4) hx hb hts in_Wall hown hK hP 0 rfl rfl 2 (by decide) (hts _ w_63) (fun _ h9 => h9) rfl d_Wall_sharesEndWith_17 ?_
    refine lv_aload_n hx hb d_Wall_sharesEndWith_20 rfl (lv_at hl 0 rfl) ?_
    refine va_get (D := D) (ci := 0) (v := .int v.2.2.2) (C := "RayField$Wall") (T := F_Wall) (N := 4) hx hb hts in_Wall hown hK hP 0 rfl rfl 3 (by decide) (hts _ w_66) (fun _ h9 => h9) rfl d_Wall_sharesEndWith_21 ?_
    refine vp_callSi (va_Run.run (rf_runV (As := [.int v.2.2.1, .int v.2.2.2]) (rest := []) S0 ml_Wall_56 (c_Wall_hasEnd l D tys q2 w v.2.2.1 v.2.2.2) hE (va_recv hK hP (ci := 0) (q0 := 1) rfl rfl) (hP.sub [1] rfl) ⟨rfl, rfl, Nat.le_of_ble_eq_true rfl, Nat.le_of_ble_eq_true rfl⟩ rfl hl.1 rfl (Nat.le_of_ble_eq_true rfl) d_Wall_sharesEndWith_24 ⟨Nat.zero_le _, Nat.zero_le _⟩)) (fun r_4 h_5 => ?_)
    refine lv_if_eq (tgt := 34) hx hb d_Wall_sharesEndWith_27 (by decide) (fun c_6 => ?_) (fun c_6 => ?_)
    · refine lv_iconst (v := 0) hx hb d_Wall_sharesEndWith_34 (by decide) ?_
      exact W.zret (v := 0) (ty := .boolean) hx hb hr rfl (fun t ht hW => ⟨_, rfl, (rf_F (fun h => h.elim (h_2.f c_3) (h_5.f c_6))), ht⟩) (fun _ h => absurd h List.not_mem_nil) d_Wall_sharesEndWith_35
    · refine lv_iconst (v := 1) hx hb d_Wall_sharesEndWith_30 (by decide) ?_
      refine lv_goto (tgt := 35) hx hb d_Wall_sharesEndWith_31 (by decide) ?_
      exact W.zret (v := 1) (ty := .boolean) hx hb hr rfl (fun t ht hW => ⟨_, rfl, (rf_T (Or.inr (h_5.t c_6))), ht⟩) (fun _ h => absurd h List.not_mem_nil) d_Wall_sharesEndWith_35
set_option maxHeartbeats 4000000 in
set_option maxRecDepth 100000 in
theorem c_Wall_clashesWith (l : Launch) (D : va_G) (tys : List (ClassId × FieldType)) (q q2 : Nat) (v w : Q4) : Met l y_Wall_clashesWith (.code y_Wall_clashesWith b_Wall_clashesWith 6 (some (.boolean)) :: BIG) { frames := 3, cells := 0, slots := 0, locals := 120 } (rf_Pc D tys [.ref q, .ref q2] (fun h => va_P D vwCl [(q, e_W v), (q2, e_W w)] h)) (vp_Si (fun r => rf_tf r (m_clash v w))) 0 0 (fun _ => False) := by
  refine Met.ofW (cc := b_Wall_clashesWith) (maxL := 6) (ret := (some (.boolean))) (by decide) rfl ?_
  intro p e s m args below meth c s₁ B hml hv
  obtain ⟨rfl, hE, hP⟩ := hv
  have hx := B.exec
  have hb := B.bytes
  have hr := B.returns
  have hts : ∀ w ∈ BIG, w.before [.ref q, .ref q2].toArray s = true := fun w h => atoms_spec (ws := .code y_Wall_clashesWith b_Wall_clashesWith 6 (some (.boolean)) :: BIG) B.pre w (List.mem_cons_of_mem _ h)
  have hown : s.vm.findClass "RayField$Wall" = some m.cls := findClass_of_methodNamed B.named
  have hlocks := B.notSynchronized
  have hK := hE.2
  have S0 : CallFix p m c b_Wall_clashesWith 6 s [.ref q, .ref q2].toArray BIG "RayField$Wall" := ⟨hx, hb, hml, hown, hts⟩
  have hl := lv_entry ([.ref q, .ref q2]) (n := 6) (Nat.le_of_ble_eq_true rfl)
  rw [lg_entry_eq]
  generalize (lg_sl ([.ref q, .ref q2]) ++ List.replicate (6 - (lg_sl ([.ref q, .ref q2])).length) Slot.unset).toArray = ls at hl ⊢
  have hl : lv_has ls 6 [(0, .ref q), (1, .ref q2)] := hl
  have hP : va_P D vwCl [(q, e_W v), (q2, e_W w)] s.heap := hP
  refine lv_aload_n hx hb d_Wall_clashesWith_0 rfl (lv_at hl 0 rfl) ?_
  refine lv_aload_n hx hb d_Wall_clashesWith_1 rfl (lv_at hl 1 rfl) ?_
  refine va_get (D := D) (ci := 0) (v := .int w.1) (C := "RayField$Wall") (T := F_Wall) (N := 4) hx hb hts in_Wall hown hK hP 1 rfl rfl 0 (by decide) (hts _ w_57) (fun _ h9 => h9) rfl d_Wall_clashesWith_2 ?_
  refine lv_aload_n hx hb d_Wall_clashesWith_5 rfl (lv_at hl 1 rfl) ?_
  refine va_get (D := D) (ci := 0) (v := .int w.2.1) (C := "RayField$Wall") (T := F_Wall) (N := 4) hx hb hts in_Wall hown hK hP 1 rfl rfl 1 (by decide) (hts _ w_60) (fun _ h9 => h9) rfl d_Wall_clashesWith_6 ?_
  refine vp_callSl (va_Run.run (rf_runV (As := [.int w.1, .int w.2.1]) (rest := []) S0 ml_Wall_28 (c_Wall_side l D tys q v w.1 w.2.1) hE (va_recv hK hP (ci := 0) (q0 := 0) rfl rfl) (hP.sub [0] rfl) ⟨rfl, rfl, Nat.le_of_ble_eq_true rfl, Nat.le_of_ble_eq_true rfl⟩ rfl hl.1 rfl (Nat.le_of_ble_eq_true rfl) d_Wall_clashesWith_9 ⟨Nat.zero_le _, Nat.zero_le _⟩)) (fun r_1 h_2 => ?_)
  subst h_2
  refine lv_lstore_n (lv' := [(2, .long (m_side v w.1 w.2.1)), (0, .ref q), (1, .ref q2)]) hx hb d_Wall_clashesWith_12 rfl hl (by decide) rfl (fun ls hl => ?_)
  refine lv_aload_n hx hb d_Wall_clashesWith_13 rfl (lv_at hl 1 rfl) ?_
  refine lv_aload_n hx hb d_Wall_clashesWith_14 rfl (lv_at hl 2 rfl) ?_
  refine va_get (D := D) (ci := 0) (v := .int w.2.2.1) (C := "RayField$Wall") (T := F_Wall) (N := 4) hx hb hts in_Wall hown hK hP 1 rfl rfl 2 (by decide) (hts _ w_63) (fun _ h9 => h9) rfl d_Wall_clashesWith_15 ?_
  refine lv_aload_n hx hb d_Wall_clashesWith_18 rfl (lv_at hl 2 rfl) ?_
  refine va_get (D := D) (ci := 0) (v := .int w.2.2.2) (C := "RayField$Wall") (T := F_Wall) (N := 4) hx hb hts in_Wall hown hK hP 1 rfl rfl 3 (by decide) (hts _ w_66) (fun _ h9 => h9) rfl d_Wall_clashesWith_19 ?_
  refine vp_callSl (va_Run.run (rf_runV (As := [.int w.2.2.1, .int w.2.2.2]) (rest := []) S0 ml_Wall_28 (c_Wall_side l D tys q v w.2.2.1 w.2.2.2) hE (va_recv hK hP (ci := 0) (q0 := 0) rfl rfl) (hP.sub [0] rfl) ⟨rfl, rfl, Nat.le_of_ble_eq_true rfl, Nat.le_of_ble_eq_true rfl⟩ rfl hl.1 rfl (Nat.le_of_ble_eq_true rfl) d_Wall_clashesWith_22 ⟨Nat.zero_le _, Nat.zero_le _⟩)) (fun r_3 h_4 => ?_)
  subst h_4
  refine lv_lstore (lv' := [(4, .long (m_side v w.2.2.1 w.2.2.2)), (2, .long (m_side v w.1 w.2.1)), (0, .ref q), (1, .ref q2)]) hx hb d_Wall_clashesWith_25 hl (by decide) rfl (fun ls hl => ?_)
  refine lv_lload_n hx hb d_Wall_clashesWith_27 rfl (lv_at hl 1 rfl) ?_
  refine lv_lconst (v := 0) hx hb d_Wall_clashesWith_28 (by decide) ?_
  refine rf_lcmp_ne (tgt := 46) hx hb d_Wall_clashesWith_29 d_Wall_clashesWith_30 (by decide) (fun c_5 => ?_) (fun c_5 => ?_)
  · refine lv_aload_n hx hb d_Wall_clashesWith_46 rfl (lv_at hl 2 rfl) ?_
    refine lv_aload_n hx hb d_Wall_clashesWith_47 rfl (lv_at hl 3 rfl) ?_
    refine vp_callSi (va_Run.run (rf_runV (As := [.ref q2]) (rest := []) S0 ml_Wall_49 (c_Wall_shares l D tys q q2 v w) hE (va_recv hK hP (ci := 0) (q0 := 0) rfl rfl) (va_P.app (hP.sub [0] rfl) (hP.sub [1] rfl)) ⟨rfl, rfl, Nat.le_of_ble_eq_true rfl, Nat.le_of_ble_eq_true rfl⟩ rfl hl.1 rfl (Nat.le_of_ble_eq_true rfl) d_Wall_clashesWith_48 ⟨Nat.zero_le _, Nat.zero_le _⟩)) (fun r_6 h_7 => ?_)
    refine lv_if_ne (tgt := 97) hx hb d_Wall_clashesWith_51 (by decide) (fun c_8 => ?_) (fun c_8 => ?_)
    · refine lv_iconst (v := 0) hx hb d_Wall_clashesWith_97 (by decide) ?_
      exact W.zret (v := 0) (ty := .boolean) hx hb hr rfl (fun t ht hW => ⟨_, rfl, (rf_F (fun h => h.elim (fun h => (fun h => c_5 h.1) h.1) (fun h => (fun h => h (h_7.t c_8)) h.2.1))), ht⟩) (fun _ h => absurd h List.not_mem_nil) d_Wall_clashesWith_98
    · refine lv_lload_n hx hb d_Wall_clashesWith_54 rfl (lv_at hl 1 rfl) ?_
      refine lv_lload hx hb d_Wall_clashesWith_55 (lv_at hl 0 rfl) ?_
      refine lv_lmul hx hb d_Wall_clashesWith_57 ?_
      refine lv_lconst (v := 0) hx hb d_Wall_clashesWith_58 (by decide) ?_
      refine rf_lcmp_gt (tgt := 97) hx hb d_Wall_clashesWith_59 d_Wall_clashesWith_60 (by decide) (fun c_9 => ?_) (fun c_9 => ?_)
      · refine lv_iconst (v := 0) hx hb d_Wall_clashesWith_97 (by decide) ?_
        exact W.zret (v := 0) (ty := .boolean) hx hb hr rfl (fun t ht hW => ⟨_, rfl, (rf_F (fun h => h.elim (fun h => (fun h => c_5 h.1) h.1) (fun h => (Int64.not_le.mpr c_9) h.2.2.1))), ht⟩) (fun _ h => absurd h List.not_mem_nil) d_Wall_clashesWith_98
      · refine lv_aload_n hx hb d_Wall_clashesWith_63 rfl (lv_at hl 3 rfl) ?_
        refine lv_aload_n hx hb d_Wall_clashesWith_64 rfl (lv_at hl 2 rfl) ?_
        refine va_get (D := D) (ci := 0) (v := .int v.1) (C := "RayField$Wall") (T := F_Wall) (N := 4) hx hb hts in_Wall hown hK hP 0 rfl rfl 0 (by decide) (hts _ w_57) (fun _ h9 => h9) rfl d_Wall_clashesWith_65 ?_
        refine lv_aload_n hx hb d_Wall_clashesWith_68 rfl (lv_at hl 2 rfl) ?_
        refine va_get (D := D) (ci := 0) (v := .int v.2.1) (C := "RayField$Wall") (T := F_Wall) (N := 4) hx hb hts in_Wall hown hK hP 0 rfl rfl 1 (by decide) (hts _ w_60) (fun _ h9 => h9) rfl d_Wall_clashesWith_69 ?_
        refine vp_callSl (va_Run.run (rf_runV (As := [.int v.1, .int v.2.1]) (rest := []) S0 ml_Wall_28 (c_Wall_side l D tys q2 w v.1 v.2.1) hE (va_recv hK hP (ci := 0) (q0 := 1) rfl rfl) (hP.sub [1] rfl) ⟨rfl, rfl, Nat.le_of_ble_eq_true rfl, Nat.le_of_ble_eq_true rfl⟩ rfl hl.1 rfl (Nat.le_of_ble_eq_true rfl) d_Wall_clashesWith_72 ⟨Nat.zero_le _, Nat.zero_le _⟩)) (fun r_10 h_11 => ?_)
        subst h_11
        refine lv_aload_n hx hb d_Wall_clashesWith_75 rfl (lv_at hl 3 rfl) ?_
        refine lv_aload_n hx hb d_Wall_clashesWith_76 rfl (lv_at hl 2 rfl) ?_
        refine va_get (D := D) (ci := 0) (v := .int v.2.2.1) (C := "RayField$Wall") (T := F_Wall) (N := 4) hx hb hts in_Wall hown hK hP 0 rfl rfl 2 (by decide) (hts _ w_63) (fun _ h9 => h9) rfl d_Wall_clashesWith_77 ?_
        refine lv_aload_n hx hb d_Wall_clashesWith_80 rfl (lv_at hl 2 rfl) ?_
        refine va_get (D := D) (ci := 0) (v := .int v.2.2.2) (C := "RayField$Wall") (T := F_Wall) (N := 4) hx hb hts in_Wall hown hK hP 0 rfl rfl 3 (by decide) (hts _ w_66) (fun _ h9 => h9) rfl d_Wall_clashesWith_81 ?_
        refine vp_callSl (va_Run.run (rf_runV (As := [.int v.2.2.1, .int v.2.2.2]) (rest := [.long (m_side w v.1 v.2.1)]) S0 ml_Wall_28 (c_Wall_side l D tys q2 w v.2.2.1 v.2.2.2) hE (va_recv hK hP (ci := 0) (q0 := 1) rfl rfl) (hP.sub [1] rfl) ⟨rfl, rfl, Nat.le_of_ble_eq_true rfl, Nat.le_of_ble_eq_true rfl⟩ rfl hl.1 rfl (Nat.le_of_ble_eq_true rfl) d_Wall_clashesWith_84 ⟨Nat.zero_le _, Nat.zero_le _⟩)) (fun r_12 h_13 => ?_)
        subst h_13
        refine lv_lmul hx hb d_Wall_clashesWith_87 ?_
        refine lv_lconst (v := 0) hx hb d_Wall_clashesWith_88 (by decide) ?_
        refine rf_lcmp_gt (tgt := 97) hx hb d_Wall_clashesWith_89 d_Wall_clashesWith_90 (by decide) (fun c_14 => ?_) (fun c_14 => ?_)
        · refine lv_iconst (v := 0) hx hb d_Wall_clashesWith_97 (by decide) ?_
          exact W.zret (v := 0) (ty := .boolean) hx hb hr rfl (fun t ht hW => ⟨_, rfl, (rf_F (fun h => h.elim (fun h => (fun h => c_5 h.1) h.1) (fun h => (Int64.not_le.mpr c_14) h.2.2.2))), ht⟩) (fun _ h => absurd h List.not_mem_nil) d_Wall_clashesWith_98
        · refine lv_iconst (v := 1) hx hb d_Wall_clashesWith_93 (by decide) ?_
          refine lv_goto (tgt := 98) hx hb d_Wall_clashesWith_94 (by decide) ?_
          exact W.zret (v := 1) (ty := .boolean) hx hb hr rfl (fun t ht hW => ⟨_, rfl, (rf_T (Or.inr ⟨(fun h => c_5 h.1), (h_7.f c_8), (Int64.not_lt.mp c_9), (Int64.not_lt.mp c_14)⟩)), ht⟩) (fun _ h => absurd h List.not_mem_nil) d_Wall_clashesWith_98
  · refine lv_lload hx hb d_Wall_clashesWith_33 (lv_at hl 0 rfl) ?_
    refine lv_lconst (v := 0) hx hb d_Wall_clashesWith_35 (by decide) ?_
    refine rf_lcmp_ne (tgt := 46) hx hb d_Wall_clashesWith_36 d_Wall_clashesWith_37 (by decide) (fun c_15 => ?_) (fun c_15 => ?_)
    · refine lv_aload_n hx hb d_Wall_clashesWith_46 rfl (lv_at hl 2 rfl) ?_
      refine lv_aload_n hx hb d_Wall_clashesWith_47 rfl (lv_at hl 3 rfl) ?_
      refine vp_callSi (va_Run.run (rf_runV (As := [.ref q2]) (rest := []) S0 ml_Wall_49 (c_Wall_shares l D tys q q2 v w) hE (va_recv hK hP (ci := 0) (q0 := 0) rfl rfl) (va_P.app (hP.sub [0] rfl) (hP.sub [1] rfl)) ⟨rfl, rfl, Nat.le_of_ble_eq_true rfl, Nat.le_of_ble_eq_true rfl⟩ rfl hl.1 rfl (Nat.le_of_ble_eq_true rfl) d_Wall_clashesWith_48 ⟨Nat.zero_le _, Nat.zero_le _⟩)) (fun r_16 h_17 => ?_)
      refine lv_if_ne (tgt := 97) hx hb d_Wall_clashesWith_51 (by decide) (fun c_18 => ?_) (fun c_18 => ?_)
      · refine lv_iconst (v := 0) hx hb d_Wall_clashesWith_97 (by decide) ?_
        exact W.zret (v := 0) (ty := .boolean) hx hb hr rfl (fun t ht hW => ⟨_, rfl, (rf_F (fun h => h.elim (fun h => (fun h => c_15 h.2) h.1) (fun h => (fun h => h (h_17.t c_18)) h.2.1))), ht⟩) (fun _ h => absurd h List.not_mem_nil) d_Wall_clashesWith_98
      · refine lv_lload_n hx hb d_Wall_clashesWith_54 rfl (lv_at hl 1 rfl) ?_
        refine lv_lload hx hb d_Wall_clashesWith_55 (lv_at hl 0 rfl) ?_
        refine lv_lmul hx hb d_Wall_clashesWith_57 ?_
        refine lv_lconst (v := 0) hx hb d_Wall_clashesWith_58 (by decide) ?_
        refine rf_lcmp_gt (tgt := 97) hx hb d_Wall_clashesWith_59 d_Wall_clashesWith_60 (by decide) (fun c_19 => ?_) (fun c_19 => ?_)
        · refine lv_iconst (v := 0) hx hb d_Wall_clashesWith_97 (by decide) ?_
          exact W.zret (v := 0) (ty := .boolean) hx hb hr rfl (fun t ht hW => ⟨_, rfl, (rf_F (fun h => h.elim (fun h => (fun h => c_15 h.2) h.1) (fun h => (Int64.not_le.mpr c_19) h.2.2.1))), ht⟩) (fun _ h => absurd h List.not_mem_nil) d_Wall_clashesWith_98
        · refine lv_aload_n hx hb d_Wall_clashesWith_63 rfl (lv_at hl 3 rfl) ?_
          refine lv_aload_n hx hb d_Wall_clashesWith_64 rfl (lv_at hl 2 rfl) ?_
          refine va_get (D := D) (ci := 0) (v := .int v.1) (C := "RayField$Wall") (T := F_Wall) (N := 4) hx hb hts in_Wall hown hK hP 0 rfl rfl 0 (by decide) (hts _ w_57) (fun _ h9 => h9) rfl d_Wall_clashesWith_65 ?_
          refine lv_aload_n hx hb d_Wall_clashesWith_68 rfl (lv_at hl 2 rfl) ?_
          refine va_get (D := D) (ci := 0) (v := .int v.2.1) (C := "RayField$Wall") (T := F_Wall) (N := 4) hx hb hts in_Wall hown hK hP 0 rfl rfl 1 (by decide) (hts _ w_60) (fun _ h9 => h9) rfl d_Wall_clashesWith_69 ?_
          refine vp_callSl (va_Run.run (rf_runV (As := [.int v.1, .int v.2.1]) (rest := []) S0 ml_Wall_28 (c_Wall_side l D tys q2 w v.1 v.2.1) hE (va_recv hK hP (ci := 0) (q0 := 1) rfl rfl) (hP.sub [1] rfl) ⟨rfl, rfl, Nat.le_of_ble_eq_true rfl, Nat.le_of_ble_eq_true rfl⟩ rfl hl.1 rfl (Nat.le_of_ble_eq_true rfl) d_Wall_clashesWith_72 ⟨Nat.zero_le _, Nat.zero_le _⟩)) (fun r_20 h_21 => ?_)
          subst h_21
          refine lv_aload_n hx hb d_Wall_clashesWith_75 rfl (lv_at hl 3 rfl) ?_
          refine lv_aload_n hx hb d_Wall_clashesWith_76 rfl (lv_at hl 2 rfl) ?_
          refine va_get (D := D) (ci := 0) (v := .int v.2.2.1) (C := "RayField$Wall") (T := F_Wall) (N := 4) hx hb hts in_Wall hown hK hP 0 rfl rfl 2 (by decide) (hts _ w_63) (fun _ h9 => h9) rfl d_Wall_clashesWith_77 ?_
          refine lv_aload_n hx hb d_Wall_clashesWith_80 rfl (lv_at hl 2 rfl) ?_
          refine va_get (D := D) (ci := 0) (v := .int v.2.2.2) (C := "RayField$Wall") (T := F_Wall) (N := 4) hx hb hts in_Wall hown hK hP 0 rfl rfl 3 (by decide) (hts _ w_66) (fun _ h9 => h9) rfl d_Wall_clashesWith_81 ?_
          refine vp_callSl (va_Run.run (rf_runV (As := [.int v.2.2.1, .int v.2.2.2]) (rest := [.long (m_side w v.1 v.2.1)]) S0 ml_Wall_28 (c_Wall_side l D tys q2 w v.2.2.1 v.2.2.2) hE (va_recv hK hP (ci := 0) (q0 := 1) rfl rfl) (hP.sub [1] rfl) ⟨rfl, rfl, Nat.le_of_ble_eq_true rfl, Nat.le_of_ble_eq_true rfl⟩ rfl hl.1 rfl (Nat.le_of_ble_eq_true rfl) d_Wall_clashesWith_84 ⟨Nat.zero_le _, Nat.zero_le _⟩)) (fun r_22 h_23 => ?_)
          subst h_23
          refine lv_lmul hx hb d_Wall_clashesWith_87 ?_
          refine lv_lconst (v := 0) hx hb d_Wall_clashesWith_88 (by decide) ?_
          refine rf_lcmp_gt (tgt := 97) hx hb d_Wall_clashesWith_89 d_Wall_clashesWith_90 (by decide) (fun c_24 => ?_) (fun c_24 => ?_)
          · refine lv_iconst (v := 0) hx hb d_Wall_clashesWith_97 (by decide) ?_
            exact W.zret (v := 0) (ty := .boolean) hx hb hr rfl (fun t ht hW => ⟨_, rfl, (rf_F (fun h => h.elim (fun h => (fun h => c_15 h.2) h.1) (fun h => (Int64.not_le.mpr c_24) h.2.2.2))), ht⟩) (fun _ h => absurd h List.not_mem_nil) d_Wall_clashesWith_98
          · refine lv_iconst (v := 1) hx hb d_Wall_clashesWith_93 (by decide) ?_
            refine lv_goto (tgt := 98) hx hb d_Wall_clashesWith_94 (by decide) ?_
            exact W.zret (v := 1) (ty := .boolean) hx hb hr rfl (fun t ht hW => ⟨_, rfl, (rf_T (Or.inr ⟨(fun h => c_15 h.2), (h_17.f c_18), (Int64.not_lt.mp c_19), (Int64.not_lt.mp c_24)⟩)), ht⟩) (fun _ h => absurd h List.not_mem_nil) d_Wall_clashesWith_98
    · refine lv_aload_n hx hb d_Wall_clashesWith_40 rfl (lv_at hl 2 rfl) ?_
      refine lv_aload_n hx hb d_Wall_clashesWith_41 rfl (lv_at hl 3 rfl) ?_
      refine vp_callSi (va_Run.run (rf_runV (As := [.ref q2]) (rest := []) S0 ml_Wall_45 (c_Wall_overlaps l D tys q q2 v w) hE (va_recv hK hP (ci := 0) (q0 := 0) rfl rfl) (va_P.app (hP.sub [0] rfl) (hP.sub [1] rfl)) ⟨rfl, rfl, Nat.le_of_ble_eq_true rfl, Nat.le_of_ble_eq_true rfl⟩ rfl hl.1 rfl (Nat.le_of_ble_eq_true rfl) d_Wall_clashesWith_42 ⟨Nat.zero_le _, Nat.zero_le _⟩)) (fun r_25 h_26 => ?_)
      exact W.zret (v := r_25) (ty := .boolean) hx hb hr h_26.nar (fun t ht hW => ⟨_, rfl, (h_26.to ⟨fun h => Or.inl ⟨⟨c_5, c_15⟩, h⟩, fun h => h.elim (fun h => h.2) (fun h => absurd ⟨c_5, c_15⟩ h.1)⟩), ht⟩) (fun _ h => absurd h List.not_mem_nil) d_Wall_clashesWith_45
end
section
set_option maxHeartbeats 4000000 in
set_option maxRecDepth 100000 in
theorem c_Ray_side (l : Launch) (D : va_G) (tys : List (ClassId × FieldType)) (q : Nat) (w : Q4) (x y : Int32) : Met l y_Ray_side (.code y_Ray_side b_Ray_side 3 (some (.long)) :: BIG) { frames := 1, cells := 0, slots := 0, locals := 40 } (rf_Pc D tys [.ref q, .int x, .int y] (fun h => va_P D vwCl [(q, e_R w)] h)) (vp_Sl (fun r => r = m_rside w x y)) 0 0 (fun _ => False) := by
  refine Met.ofW (cc := b_Ray_side) (maxL := 3) (ret := (some (.long))) (by decide) rfl ?_
  intro p e s m args below meth c s₁ B hml hv
  obtain ⟨rfl, hE, hP⟩ := hv
  have hx := B.exec
  have hb := B.bytes
  have hr := B.returns
  have hts : ∀ w ∈ BIG, w.before [.ref q, .int x, .int y].toArray s = true := fun w h => atoms_spec (ws := .code y_Ray_side b_Ray_side 3 (some (.long)) :: BIG) B.pre w (List.mem_cons_of_mem _ h)
  have hown : s.vm.findClass "RayField$Ray" = some m.cls := findClass_of_methodNamed B.named
  have hlocks := B.notSynchronized
  have hK := hE.2
  have S0 : CallFix p m c b_Ray_side 3 s [.ref q, .int x, .int y].toArray BIG "RayField$Ray" := ⟨hx, hb, hml, hown, hts⟩
  have hl := lv_entry ([.ref q, .int x, .int y]) (n := 3) (Nat.le_of_ble_eq_true rfl)
  rw [lg_entry_eq]
  generalize (lg_sl ([.ref q, .int x, .int y]) ++ List.replicate (3 - (lg_sl ([.ref q, .int x, .int y])).length) Slot.unset).toArray = ls at hl ⊢
  have hl : lv_has ls 3 [(0, .ref q), (1, .int x), (2, .int y)] := hl
  have hP : va_P D vwCl [(q, e_R w)] s.heap := hP
  refine lv_aload_n hx hb d_Ray_side_0 rfl (lv_at hl 0 rfl) ?_
  refine va_get (D := D) (ci := 1) (v := .int w.2.2.1) (C := "RayField$Ray") (T := F_Ray) (N := 4) hx hb hts in_Ray hown hK hP 0 rfl rfl 2 (by decide) (hts _ w_202) (fun _ h9 => h9) rfl d_Ray_side_1 ?_
  refine lv_i2l hx hb d_Ray_side_4 rfl ?_
  refine lv_aload_n hx hb d_Ray_side_5 rfl (lv_at hl 0 rfl) ?_
  refine va_get (D := D) (ci := 1) (v := .int w.2.2.2) (C := "RayField$Ray") (T := F_Ray) (N := 4) hx hb hts in_Ray hown hK hP 0 rfl rfl 3 (by decide) (hts _ w_203) (fun _ h9 => h9) rfl d_Ray_side_6 ?_
  refine lv_i2l hx hb d_Ray_side_9 rfl ?_
  refine lv_iload_n hx hb d_Ray_side_10 rfl (lv_at hl 1 rfl) ?_
  refine lv_aload_n hx hb d_Ray_side_11 rfl (lv_at hl 0 rfl) ?_
  refine va_get (D := D) (ci := 1) (v := .int w.1) (C := "RayField$Ray") (T := F_Ray) (N := 4) hx hb hts in_Ray hown hK hP 0 rfl rfl 0 (by decide) (hts _ w_198) (fun _ h9 => h9) rfl d_Ray_side_12 ?_
  refine lv_isub hx hb d_Ray_side_15 ?_
  refine lv_i2l hx hb d_Ray_side_16 rfl ?_
  refine lv_iload_n hx hb d_Ray_side_17 rfl (lv_at hl 2 rfl) ?_
  refine lv_aload_n hx hb d_Ray_side_18 rfl (lv_at hl 0 rfl) ?_
  refine va_get (D := D) (ci := 1) (v := .int w.2.1) (C := "RayField$Ray") (T := F_Ray) (N := 4) hx hb hts in_Ray hown hK hP 0 rfl rfl 1 (by decide) (hts _ w_200) (fun _ h9 => h9) rfl d_Ray_side_19 ?_
  refine lv_isub hx hb d_Ray_side_22 ?_
  refine lv_i2l hx hb d_Ray_side_23 rfl ?_
  refine vp_callSl (va_Run.run (rf_runSN (As := [.long w.2.2.1.toInt64, .long w.2.2.2.toInt64, .long ((x - w.1).toInt64), .long ((y - w.2.1).toInt64)]) (rest := []) S0 ml_Ray_22 (c_RF_cross l D tys w.2.2.1.toInt64 w.2.2.2.toInt64 ((x - w.1).toInt64) ((y - w.2.1).toInt64)) hE trivial ⟨rfl, rfl, Nat.le_of_ble_eq_true rfl, Nat.le_of_ble_eq_true rfl⟩ rfl hl.1 rfl (Nat.le_of_ble_eq_true rfl) d_Ray_side_24 ⟨Nat.zero_le _, Nat.zero_le _⟩)) (fun r_1 h_2 => ?_)
  subst h_2
  exact W.lret (v := m_cross w.2.2.1.toInt64 w.2.2.2.toInt64 ((x - w.1).toInt64) ((y - w.2.1).toInt64)) hx hb hr (fun t ht hW => ⟨_, rfl, rfl, ht⟩) (fun _ h => absurd h List.not_mem_nil) d_Ray_side_27
set_option maxHeartbeats 4000000 in
set_option maxRecDepth 100000 in
theorem c_Meeting_isNearer (l : Launch) (D : va_G) (tys : List (ClassId × FieldType)) (q q2 : Nat) (n1 f1 n2 f2 : Int32) (d1 a1 v1 d2 a2 v2 : Int64) : Met l y_Meeting_isNearerThan (.code y_Meeting_isNearerThan b_Meeting_isNearerThan 2 (some (.boolean)) :: BIG) { frames := 0, cells := 0, slots := 0, locals := 0 } (rf_Pc D tys [.ref q, .ref q2] (fun h => va_P D vwCl [(q, e_M n1 f1 d1 a1 v1), (q2, e_M n2 f2 d2 a2 v2)] h)) (vp_Si (fun r => rf_tf r (d1 * v2 < d2 * v1))) 0 0 (fun _ => False) := by
  refine Met.ofW (cc := b_Meeting_isNearerThan) (maxL := 2) (ret := (some (.boolean))) (by decide) rfl ?_
  intro p e s m args below meth c s₁ B hml hv
  obtain ⟨rfl, hE, hP⟩ := hv
  have hx := B.exec
  have hb := B.bytes
  have hr := B.returns
  have hts : ∀ w ∈ BIG, w.before [.ref q, .ref q2].toArray s = true := fun w h => atoms_spec (ws := .code y_Meeting_isNearerThan b_Meeting_isNearerThan 2 (some (.boolean)) :: BIG) B.pre w (List.mem_cons_of_mem _ h)
  have hown : s.vm.findClass "RayField$Meeting" = some m.cls := findClass_of_methodNamed B.named
  have hlocks := B.notSynchronized
  have hK := hE.2
  have S0 : CallFix p m c b_Meeting_isNearerThan 2 s [.ref q, .ref q2].toArray BIG "RayField$Meeting" := ⟨hx, hb, hml, hown, hts⟩
  have hl := lv_entry ([.ref q, .ref q2]) (n := 2) (Nat.le_of_ble_eq_true rfl)
  rw [lg_entry_eq]
  generalize (lg_sl ([.ref q, .ref q2]) ++ List.replicate (2 - (lg_sl ([.ref q, .ref q2])).length) Slot.unset).toArray = ls at hl ⊢
  have hl : lv_has ls 2 [(0, .ref q), (1, .ref q2)] := hl
  have hP : va_P D vwCl [(q, e_M n1 f1 d1 a1 v1), (q2, e_M n2 f2 d2 a2 v2)] s.heap := hP
  refine lv_aload_n hx hb d_Meeting_isNearerThan_0 rfl (lv_at hl 0 rfl) ?_
  refine va_get (D := D) (ci := 2) (v := .long d1) (C := "RayField$Meeting") (T := F_Meeting) (N := 5) hx hb hts in_Meeting hown hK hP 0 rfl rfl 2 (by decide) (hts _ w_131) (fun _ h9 => h9) rfl d_Meeting_isNearerThan_1 ?_
  refine lv_aload_n hx hb d_Meeting_isNearerThan_4 rfl (lv_at hl 1 rfl) ?_
  refine va_get (D := D) (ci := 2) (v := .long v2) (C := "RayField$Meeting") (T := F_Meeting) (N := 5) hx hb hts in_Meeting hown hK hP 1 rfl rfl 4 (by decide) (hts _ w_135) (fun _ h9 => h9) rfl d_Meeting_isNearerThan_5 ?_
  refine lv_lmul hx hb d_Meeting_isNearerThan_8 ?_
  refine lv_aload_n hx hb d_Meeting_isNearerThan_9 rfl (lv_at hl 1 rfl) ?_
  refine va_get (D := D) (ci := 2) (v := .long d2) (C := "RayField$Meeting") (T := F_Meeting) (N := 5) hx hb hts in_Meeting hown hK hP 1 rfl rfl 2 (by decide) (hts _ w_131) (fun _ h9 => h9) rfl d_Meeting_isNearerThan_10 ?_
  refine lv_aload_n hx hb d_Meeting_isNearerThan_13 rfl (lv_at hl 0 rfl) ?_
  refine va_get (D := D) (ci := 2) (v := .long v1) (C := "RayField$Meeting") (T := F_Meeting) (N := 5) hx hb hts in_Meeting hown hK hP 0 rfl rfl 4 (by decide) (hts _ w_135) (fun _ h9 => h9) rfl d_Meeting_isNearerThan_14 ?_
  refine lv_lmul hx hb d_Meeting_isNearerThan_17 ?_
  refine rf_lcmp_ge (tgt := 26) hx hb d_Meeting_isNearerThan_18 d_Meeting_isNearerThan_19 (by decide) (fun c_1 => ?_) (fun c_1 => ?_)
  · refine lv_iconst (v := 0) hx hb d_Meeting_isNearerThan_26 (by decide) ?_
    exact W.zret (v := 0) (ty := .boolean) hx hb hr rfl (fun t ht hW => ⟨_, rfl, (rf_F (Int64.not_lt.mpr c_1)), ht⟩) (fun _ h => absurd h List.not_mem_nil) d_Meeting_isNearerThan_27
  · refine lv_iconst (v := 1) hx hb d_Meeting_isNearerThan_22 (by decide) ?_
    refine lv_goto (tgt := 27) hx hb d_Meeting_isNearerThan_23 (by decide) ?_
    exact W.zret (v := 1) (ty := .boolean) hx hb hr rfl (fun t ht hW => ⟨_, rfl, (rf_T (Int64.not_le.mp c_1)), ht⟩) (fun _ h => absurd h List.not_mem_nil) d_Meeting_isNearerThan_27
set_option maxHeartbeats 4000000 in
set_option maxRecDepth 100000 in
theorem c_Meeting_isAtMost (l : Launch) (D : va_G) (tys : List (ClassId × FieldType)) (q : Nat) (n1 f1 : Int32) (d1 a1 v1 : Int64) (n d : Int64) : Met l y_Meeting_isAtMost (.code y_Meeting_isAtMost b_Meeting_isAtMost 5 (some (.boolean)) :: BIG) { frames := 0, cells := 0, slots := 0, locals := 0 } (rf_Pc D tys [.ref q, .long n, .long d] (fun h => va_P D vwCl [(q, e_M n1 f1 d1 a1 v1)] h)) (vp_Si (fun r => rf_tf r (d1 * d ≤ n * v1))) 0 0 (fun _ => False) := by
  refine Met.ofW (cc := b_Meeting_isAtMost) (maxL := 5) (ret := (some (.boolean))) (by decide) rfl ?_
  intro p e s m args below meth c s₁ B hml hv
  obtain ⟨rfl, hE, hP⟩ := hv
  have hx := B.exec
  have hb := B.bytes
  have hr := B.returns
  have hts : ∀ w ∈ BIG, w.before [.ref q, .long n, .long d].toArray s = true := fun w h => atoms_spec (ws := .code y_Meeting_isAtMost b_Meeting_isAtMost 5 (some (.boolean)) :: BIG) B.pre w (List.mem_cons_of_mem _ h)
  have hown : s.vm.findClass "RayField$Meeting" = some m.cls := findClass_of_methodNamed B.named
  have hlocks := B.notSynchronized
  have hK := hE.2
  have S0 : CallFix p m c b_Meeting_isAtMost 5 s [.ref q, .long n, .long d].toArray BIG "RayField$Meeting" := ⟨hx, hb, hml, hown, hts⟩
  have hl := lv_entry ([.ref q, .long n, .long d]) (n := 5) (Nat.le_of_ble_eq_true rfl)
  rw [lg_entry_eq]
  generalize (lg_sl ([.ref q, .long n, .long d]) ++ List.replicate (5 - (lg_sl ([.ref q, .long n, .long d])).length) Slot.unset).toArray = ls at hl ⊢
  have hl : lv_has ls 5 [(0, .ref q), (1, .long n), (3, .long d)] := hl
  have hP : va_P D vwCl [(q, e_M n1 f1 d1 a1 v1)] s.heap := hP
  refine lv_aload_n hx hb d_Meeting_isAtMost_0 rfl (lv_at hl 0 rfl) ?_
  refine va_get (D := D) (ci := 2) (v := .long d1) (C := "RayField$Meeting") (T := F_Meeting) (N := 5) hx hb hts in_Meeting hown hK hP 0 rfl rfl 2 (by decide) (hts _ w_131) (fun _ h9 => h9) rfl d_Meeting_isAtMost_1 ?_
  refine lv_lload_n hx hb d_Meeting_isAtMost_4 rfl (lv_at hl 2 rfl) ?_
  refine lv_lmul hx hb d_Meeting_isAtMost_5 ?_
  refine lv_lload_n hx hb d_Meeting_isAtMost_6 rfl (lv_at hl 1 rfl) ?_
  refine lv_aload_n hx hb d_Meeting_isAtMost_7 rfl (lv_at hl 0 rfl) ?_
  refine va_get (D := D) (ci := 2) (v := .long v1) (C := "RayField$Meeting") (T := F_Meeting) (N := 5) hx hb hts in_Meeting hown hK hP 0 rfl rfl 4 (by decide) (hts _ w_135) (fun _ h9 => h9) rfl d_Meeting_isAtMost_8 ?_
  refine lv_lmul hx hb d_Meeting_isAtMost_11 ?_
  refine rf_lcmp_gt (tgt := 20) hx hb d_Meeting_isAtMost_12 d_Meeting_isAtMost_13 (by decide) (fun c_1 => ?_) (fun c_1 => ?_)
  · refine lv_iconst (v := 0) hx hb d_Meeting_isAtMost_20 (by decide) ?_
    exact W.zret (v := 0) (ty := .boolean) hx hb hr rfl (fun t ht hW => ⟨_, rfl, (rf_F (Int64.not_le.mpr c_1)), ht⟩) (fun _ h => absurd h List.not_mem_nil) d_Meeting_isAtMost_21
  · refine lv_iconst (v := 1) hx hb d_Meeting_isAtMost_16 (by decide) ?_
    refine lv_goto (tgt := 21) hx hb d_Meeting_isAtMost_17 (by decide) ?_
    exact W.zret (v := 1) (ty := .boolean) hx hb hr rfl (fun t ht hW => ⟨_, rfl, (rf_T (Int64.not_lt.mp c_1)), ht⟩) (fun _ h => absurd h List.not_mem_nil) d_Meeting_isAtMost_21
set_option maxHeartbeats 4000000 in
set_option maxRecDepth 100000 in
theorem c_Meeting_roundedDown (l : Launch) (D : va_G) (tys : List (ClassId × FieldType)) (q : Nat) (n1 f1 : Int32) (d1 a1 v1 : Int64) (x : Int64) : Met l y_Meeting_roundedDown (.code y_Meeting_roundedDown b_Meeting_roundedDown 3 (some (.long)) :: BIG) { frames := 1, cells := 0, slots := 0, locals := 40 } (rf_Pc D tys [.ref q, .long x] (fun h => va_P D vwCl [(q, e_M n1 f1 d1 a1 v1)] h)) (vp_Sl (fun r => r = m_rd x v1)) 0 0 (fun _ => False) := by
  refine Met.ofW (cc := b_Meeting_roundedDown) (maxL := 3) (ret := (some (.long))) (by decide) rfl ?_
  intro p e s m args below meth c s₁ B hml hv
  obtain ⟨rfl, hE, hP⟩ := hv
  have hx := B.exec
  have hb := B.bytes
  have hr := B.returns
  have hts : ∀ w ∈ BIG, w.before [.ref q, .long x].toArray s = true := fun w h => atoms_spec (ws := .code y_Meeting_roundedDown b_Meeting_roundedDown 3 (some (.long)) :: BIG) B.pre w (List.mem_cons_of_mem _ h)
  have hown : s.vm.findClass "RayField$Meeting" = some m.cls := findClass_of_methodNamed B.named
  have hlocks := B.notSynchronized
  have hK := hE.2
  have S0 : CallFix p m c b_Meeting_roundedDown 3 s [.ref q, .long x].toArray BIG "RayField$Meeting" := ⟨hx, hb, hml, hown, hts⟩
  have hl := lv_entry ([.ref q, .long x]) (n := 3) (Nat.le_of_ble_eq_true rfl)
  rw [lg_entry_eq]
  generalize (lg_sl ([.ref q, .long x]) ++ List.replicate (3 - (lg_sl ([.ref q, .long x])).length) Slot.unset).toArray = ls at hl ⊢
  have hl : lv_has ls 3 [(0, .ref q), (1, .long x)] := hl
  have hP : va_P D vwCl [(q, e_M n1 f1 d1 a1 v1)] s.heap := hP
  refine lv_aload_n hx hb d_Meeting_roundedDown_0 rfl (lv_at hl 0 rfl) ?_
  refine va_get (D := D) (ci := 2) (v := .long v1) (C := "RayField$Meeting") (T := F_Meeting) (N := 5) hx hb hts in_Meeting hown hK hP 0 rfl rfl 4 (by decide) (hts _ w_135) (fun _ h9 => h9) rfl d_Meeting_roundedDown_1 ?_
  refine lv_lconst (v := 0) hx hb d_Meeting_roundedDown_4 (by decide) ?_
  refine rf_lcmp_le (tgt := 20) hx hb d_Meeting_roundedDown_5 d_Meeting_roundedDown_6 (by decide) (fun c_1 => ?_) (fun c_1 => ?_)
  · refine lv_ldc2 (v := (-1)) hx hb hown (hts _ w_242) d_Meeting_roundedDown_20 ?_
    exact W.lret (v := (-1)) hx hb hr (fun t ht hW => ⟨_, rfl, (by unfold m_rd; rw [if_neg (Int64.not_lt.mpr c_1)]), ht⟩) (fun _ h => absurd h List.not_mem_nil) d_Meeting_roundedDown_23
  · refine lv_lload_n hx hb d_Meeting_roundedDown_9 rfl (lv_at hl 1 rfl) ?_
    refine lv_aload_n hx hb d_Meeting_roundedDown_10 rfl (lv_at hl 0 rfl) ?_
    refine va_get (D := D) (ci := 2) (v := .long v1) (C := "RayField$Meeting") (T := F_Meeting) (N := 5) hx hb hts in_Meeting hown hK hP 0 rfl rfl 4 (by decide) (hts _ w_135) (fun _ h9 => h9) rfl d_Meeting_roundedDown_11 ?_
    refine vp_callSl (va_Run.run (rf_runS (As := [.long x, .long v1]) (rest := []) S0 ml_Meeting_62 (c_floorDiv l D tys x v1 (fun z => absurd (z ▸ (Int64.not_le.mp c_1)) (by decide))) hE trivial ⟨rfl, rfl, Nat.le_of_ble_eq_true rfl, Nat.le_of_ble_eq_true rfl⟩ rfl hl.1 rfl (Nat.le_of_ble_eq_true rfl) d_Meeting_roundedDown_14 ⟨Nat.zero_le _, Nat.zero_le _⟩)) (fun r_2 h_3 => ?_)
    subst h_3
    refine lv_goto (tgt := 23) hx hb d_Meeting_roundedDown_17 (by decide) ?_
    exact W.lret (v := m_fdiv x v1) hx hb hr (fun t ht hW => ⟨_, rfl, (by unfold m_rd; rw [if_pos (Int64.not_le.mp c_1)]), ht⟩) (fun _ h => absurd h List.not_mem_nil) d_Meeting_roundedDown_23
end
section
set_option maxHeartbeats 4000000 in
set_option maxRecDepth 100000 in
theorem c_RF_least (l : Launch) (D : va_G) (x wa ma : Nat) (wc mc : Int32) (ry : Option Nat) (cW cM : ClassId) (wf mf : Nat → Option Nat) (L : List Nat) (f : Nat → va_E) : Met l y_RF_leastFreeNumber (.code y_RF_leastFreeNumber b_RF_leastFreeNumber 2 (some (.int)) :: BIG) { frames := 0, cells := 0, slots := 0, locals := 0 } (rf_Pc D (x_t cW cM) [.ref x] (fun h => va_P D vwCl (x_3 x wa ma wc mc ry cW cM wf mf ++ va_pl L f) h)) (vp_Si (fun r => rf_First (fun k => wf k = none) r)) 0 0 (fun _ => False) := by
  refine Met.ofW (cc := b_RF_leastFreeNumber) (maxL := 2) (ret := (some (.int))) (by decide) rfl ?_
  intro p e s m args below meth c s₁ B hml hv
  obtain ⟨rfl, hE, hP⟩ := hv
  have hx := B.exec
  have hb := B.bytes
  have hr := B.returns
  have hts : ∀ w ∈ BIG, w.before [.ref x].toArray s = true := fun w h => atoms_spec (ws := .code y_RF_leastFreeNumber b_RF_leastFreeNumber 2 (some (.int)) :: BIG) B.pre w (List.mem_cons_of_mem _ h)
  have hown : s.vm.findClass "RayField" = some m.cls := findClass_of_methodNamed B.named
  have hlocks := B.notSynchronized
  have hK := hE.2
  have S0 : CallFix p m c b_RF_leastFreeNumber 2 s [.ref x].toArray BIG "RayField" := ⟨hx, hb, hml, hown, hts⟩
  have hl := lv_entry ([.ref x]) (n := 2) (Nat.le_of_ble_eq_true rfl)
  rw [lg_entry_eq]
  generalize (lg_sl ([.ref x]) ++ List.replicate (2 - (lg_sl ([.ref x])).length) Slot.unset).toArray = ls at hl ⊢
  have hl : lv_has ls 2 [(0, .ref x)] := hl
  have hP : va_P D vwCl (x_3 x wa ma wc mc ry cW cM wf mf ++ va_pl L f) s.heap := hP
  refine lv_iconst (v := 0) hx hb d_RF_leastFreeNumber_0 (by decide) ?_
  refine rf_topi nI_0.symm ?_
  refine lv_istore_n (lv' := [(1, .int (nI 0)), (0, .ref x)]) hx hb d_RF_leastFreeNumber_1 rfl hl (by decide) rfl (fun ls hl => ?_)
  refine rf_loopP 2 64 (fun i ls => lv_has ls 2 [(1, .int (nI i)), (0, .ref x)] ∧ (∀ j, j < i → ¬ wf j = none)) (fun ls hI => ?_) (fun i ls hi hI hk => ?_) 0 (Nat.zero_le _) ⟨lv_sub hl [0, 1] rfl, fun j hj => absurd hj (Nat.not_lt_zero _)⟩
  · obtain ⟨hl, hJ⟩ := hI
    refine lv_iload_n hx hb d_RF_leastFreeNumber_2 rfl (lv_at hl 0 rfl) ?_
    refine lv_aload_n hx hb d_RF_leastFreeNumber_3 rfl (lv_at hl 1 rfl) ?_
    refine va_get (D := D) (ci := 3) (v := .ref wa) (C := "RayField") (T := F_RF) (N := 5) hx hb hts in_RF hown hK hP 0 rfl rfl 0 (by decide) (hts _ w_19) (fun _ h9 => h9) rfl d_RF_leastFreeNumber_4 ?_
    refine va_alen hx hb hK hP 1 0 rfl rfl (v := nI 64) rfl d_RF_leastFreeNumber_7 ?_
    refine lv_icmp_ge (tgt := 28) hx hb d_RF_leastFreeNumber_8 (by decide) (fun c_1 => ?_) (fun c_1 => absurd (nI_le (Nat.le_refl _) (by decide)) c_1)
    refine lv_iconst (v := -1) hx hb d_RF_leastFreeNumber_28 (by decide) ?_
    exact W.iret (v := (-1)) hx hb hr (fun t ht hW => ⟨_, rfl, (Or.inr ⟨rfl, hJ⟩), ht⟩) (fun _ h => absurd h List.not_mem_nil) d_RF_leastFreeNumber_29
  · obtain ⟨hl, hJ⟩ := hI
    refine lv_iload_n hx hb d_RF_leastFreeNumber_2 rfl (lv_at hl 0 rfl) ?_
    refine lv_aload_n hx hb d_RF_leastFreeNumber_3 rfl (lv_at hl 1 rfl) ?_
    refine va_get (D := D) (ci := 3) (v := .ref wa) (C := "RayField") (T := F_RF) (N := 5) hx hb hts in_RF hown hK hP 0 rfl rfl 0 (by decide) (hts _ w_19) (fun _ h9 => h9) rfl d_RF_leastFreeNumber_4 ?_
    refine va_alen hx hb hK hP 1 0 rfl rfl (v := nI 64) rfl d_RF_leastFreeNumber_7 ?_
    refine lv_icmp_ge (tgt := 28) hx hb d_RF_leastFreeNumber_8 (by decide) (fun c_2 => absurd c_2 (nI_ge hi (by decide))) (fun c_2 => ?_)
    refine lv_aload_n hx hb d_RF_leastFreeNumber_11 rfl (lv_at hl 1 rfl) ?_
    refine va_get (D := D) (ci := 3) (v := .ref wa) (C := "RayField") (T := F_RF) (N := 5) hx hb hts in_RF hown hK hP 0 rfl rfl 0 (by decide) (hts _ w_19) (fun _ h9 => h9) rfl d_RF_leastFreeNumber_12 ?_
    refine lv_iload_n hx hb d_RF_leastFreeNumber_15 rfl (lv_at hl 0 rfl) ?_
    refine rf_aldq hx hb hK hP 1 0 rfl rfl hi (by decide) d_RF_leastFreeNumber_16 ?_
    refine rf_topq (fun e_3 => ?_) (fun q_4 e_3 => ?_)
    · refine lv_ifnonnullN hx hb d_RF_leastFreeNumber_17 ?_
      refine lv_iload_n hx hb d_RF_leastFreeNumber_20 rfl (lv_at hl 0 rfl) ?_
      exact W.iret (v := nI i) hx hb hr (fun t ht hW => ⟨_, rfl, (Or.inl ⟨i, hi, rfl, e_3, hJ⟩), ht⟩) (fun _ h => absurd h List.not_mem_nil) d_RF_leastFreeNumber_21
    · refine lv_ifnonnull (tgt := 22) hx hb d_RF_leastFreeNumber_17 (by decide) ?_
      refine lv_iinc (v := (nI (i + 1))) (lv' := [(1, .int (nI (i + 1))), (0, .ref x)]) hx hb d_RF_leastFreeNumber_22 hl (k := 0) rfl (nI_1 i) (by decide) rfl (fun ls hl => ?_)
      refine lv_goto (tgt := 2) hx hb d_RF_leastFreeNumber_25 (by decide) ?_
      exact hk _ ⟨lv_sub hl [0, 1] rfl, lt_s hJ (fun z => by rw [e_3] at z; cases z)⟩
set_option maxHeartbeats 4000000 in
set_option maxRecDepth 100000 in
theorem c_RF_wallNumbered (l : Launch) (D : va_G) (x wa ma : Nat) (wc mc : Int32) (ry : Option Nat) (cW cM : ClassId) (wf mf : Nat → Option Nat) (L : List Nat) (f : Nat → va_E) (i : Int32) : Met l y_RF_wallNumbered (.code y_RF_wallNumbered b_RF_wallNumbered 2 (some (.object "RayField$Wall")) :: BIG) { frames := 2, cells := 0, slots := 0, locals := 80 } (rf_Pc D (x_t cW cM) [.ref x, .int i] (fun h => va_P D vwCl (x_3 x wa ma wc mc ry cW cM wf mf ++ va_pl L f) h)) (va_Sq (fun r => (∃ k, k < 64 ∧ i = nI k ∧ r = wf k) ∨ ((∀ k, k < 64 → ¬ i = nI k) ∧ r = none))) 0 0 (fun _ => False) := by
  refine Met.ofW (cc := b_RF_wallNumbered) (maxL := 2) (ret := (some (.object "RayField$Wall"))) (by decide) rfl ?_
  intro p e s m args below meth c s₁ B hml hv
  obtain ⟨rfl, hE, hP⟩ := hv
  have hx := B.exec
  have hb := B.bytes
  have hr := B.returns
  have hts : ∀ w ∈ BIG, w.before [.ref x, .int i].toArray s = true := fun w h => atoms_spec (ws := .code y_RF_wallNumbered b_RF_wallNumbered 2 (some (.object "RayField$Wall")) :: BIG) B.pre w (List.mem_cons_of_mem _ h)
  have hown : s.vm.findClass "RayField" = some m.cls := findClass_of_methodNamed B.named
  have hlocks := B.notSynchronized
  have hK := hE.2
  have S0 : CallFix p m c b_RF_wallNumbered 2 s [.ref x, .int i].toArray BIG "RayField" := ⟨hx, hb, hml, hown, hts⟩
  have hl := lv_entry ([.ref x, .int i]) (n := 2) (Nat.le_of_ble_eq_true rfl)
  rw [lg_entry_eq]
  generalize (lg_sl ([.ref x, .int i]) ++ List.replicate (2 - (lg_sl ([.ref x, .int i])).length) Slot.unset).toArray = ls at hl ⊢
  have hl : lv_has ls 2 [(0, .ref x), (1, .int i)] := hl
  have hP : va_P D vwCl (x_3 x wa ma wc mc ry cW cM wf mf ++ va_pl L f) s.heap := hP
  refine lv_iload_n hx hb d_RF_wallNumbered_0 rfl (lv_at hl 1 rfl) ?_
  refine vp_callSi (va_Run.run (rf_runS (As := [.int i]) (rest := []) S0 ml_RF_29 (c_RF_isNumber l D (x_t cW cM) i) hE trivial ⟨rfl, rfl, Nat.le_of_ble_eq_true rfl, Nat.le_of_ble_eq_true rfl⟩ rfl hl.1 rfl (Nat.le_of_ble_eq_true rfl) d_RF_wallNumbered_1 ⟨Nat.zero_le _, Nat.zero_le _⟩)) (fun r_1 h_2 => ?_)
  refine lv_if_eq (tgt := 16) hx hb d_RF_wallNumbered_4 (by decide) (fun c_3 => ?_) (fun c_3 => ?_)
  · refine lv_null hx hb d_RF_wallNumbered_16 ?_
    exact W.aret (v := va_rf (none)) hx hb hr (Or.inl ⟨_, rfl⟩) (va_rf_or _) (fun t ht hW => ⟨none, rfl, (Or.inr ⟨rf_btw63n (h_2.f c_3), rfl⟩), ht⟩) (fun _ h => absurd h List.not_mem_nil) d_RF_wallNumbered_17
  · obtain ⟨k, hk, ek⟩ := rf_btw63 (h_2.t c_3)
    subst ek
    refine lv_aload_n hx hb d_RF_wallNumbered_7 rfl (lv_at hl 0 rfl) ?_
    refine va_get (D := D) (ci := 3) (v := .ref wa) (C := "RayField") (T := F_RF) (N := 5) hx hb hts in_RF hown hK hP 0 rfl rfl 0 (by decide) (hts _ w_19) (fun _ h9 => h9) rfl d_RF_wallNumbered_8 ?_
    refine lv_iload_n hx hb d_RF_wallNumbered_11 rfl (lv_at hl 1 rfl) ?_
    refine rf_aldq hx hb hK hP 1 0 rfl rfl hk (by decide) d_RF_wallNumbered_12 ?_
    refine rf_topq (fun e_4 => ?_) (fun q_5 e_4 => ?_)
    · refine lv_goto (tgt := 17) hx hb d_RF_wallNumbered_13 (by decide) ?_
      exact W.aret (v := va_rf (none)) hx hb hr (Or.inl ⟨_, rfl⟩) (va_rf_or _) (fun t ht hW => ⟨none, rfl, (Or.inl ⟨k, hk, rfl, e_4.symm⟩), ht⟩) (fun _ h => absurd h List.not_mem_nil) d_RF_wallNumbered_17
    · refine lv_goto (tgt := 17) hx hb d_RF_wallNumbered_13 (by decide) ?_
      exact W.aret (v := va_rf (some q_5)) hx hb hr (Or.inl ⟨_, rfl⟩) (va_rf_or _) (fun t ht hW => ⟨some q_5, rfl, (Or.inl ⟨k, hk, rfl, e_4.symm⟩), ht⟩) (fun _ h => absurd h List.not_mem_nil) d_RF_wallNumbered_17
set_option maxHeartbeats 4000000 in
set_option maxRecDepth 100000 in
theorem c_RF_clashes (l : Launch) (D : va_G) (x wa ma : Nat) (wc mc : Int32) (ry : Option Nat) (cW cM : ClassId) (wf mf : Nat → Option Nat) (L : List Nat) (f : Nat → va_E) (wl : Nat → Option Q4) (hw : rf_walls L f wf wl) (qv : Nat) (v : Q4) (hq : qv ∈ L) (hqf : f qv = e_W v) : Met l y_RF_clashes (.code y_RF_clashes b_RF_clashes 4 (some (.boolean)) :: BIG) { frames := 4, cells := 0, slots := 0, locals := 160 } (rf_Pc D (x_t cW cM) [.ref x, .ref qv] (fun h => va_P D vwCl (x_3 x wa ma wc mc ry cW cM wf mf ++ va_pl L f) h)) (vp_Si (fun r => rf_tf r (∃ k, k < 64 ∧ ∃ w, wl k = some w ∧ m_clash v w))) 0 0 (fun _ => False) := by
  refine Met.ofW (cc := b_RF_clashes) (maxL := 4) (ret := (some (.boolean))) (by decide) rfl ?_
  intro p e s m args below meth c s₁ B hml hv
  obtain ⟨rfl, hE, hP⟩ := hv
  have hx := B.exec
  have hb := B.bytes
  have hr := B.returns
  have hts : ∀ w ∈ BIG, w.before [.ref x, .ref qv].toArray s = true := fun w h => atoms_spec (ws := .code y_RF_clashes b_RF_clashes 4 (some (.boolean)) :: BIG) B.pre w (List.mem_cons_of_mem _ h)
  have hown : s.vm.findClass "RayField" = some m.cls := findClass_of_methodNamed B.named
  have hlocks := B.notSynchronized
  have hK := hE.2
  have S0 : CallFix p m c b_RF_clashes 4 s [.ref x, .ref qv].toArray BIG "RayField" := ⟨hx, hb, hml, hown, hts⟩
  have hl := lv_entry ([.ref x, .ref qv]) (n := 4) (Nat.le_of_ble_eq_true rfl)
  rw [lg_entry_eq]
  generalize (lg_sl ([.ref x, .ref qv]) ++ List.replicate (4 - (lg_sl ([.ref x, .ref qv])).length) Slot.unset).toArray = ls at hl ⊢
  have hl : lv_has ls 4 [(0, .ref x), (1, .ref qv)] := hl
  have hP : va_P D vwCl (x_3 x wa ma wc mc ry cW cM wf mf ++ va_pl L f) s.heap := hP
  have hPv := rf_pl hP hq hqf
  refine lv_iconst (v := 0) hx hb d_RF_clashes_0 (by decide) ?_
  refine rf_topi nI_0.symm ?_
  refine lv_istore_n (lv' := [(2, .int (nI 0)), (0, .ref x), (1, .ref qv)]) hx hb d_RF_clashes_1 rfl hl (by decide) rfl (fun ls hl => ?_)
  refine rf_loopP 2 64 (fun i ls => lv_has ls 4 [(2, .int (nI i)), (0, .ref x), (1, .ref qv)] ∧ (∀ j, j < i → ∀ w, wl j = some w → ¬ m_clash v w)) (fun ls hI => ?_) (fun i ls hi hI hk => ?_) 0 (Nat.zero_le _) ⟨lv_sub hl [0, 1, 2] rfl, fun j hj => absurd hj (Nat.not_lt_zero _)⟩
  · obtain ⟨hl, hJ⟩ := hI
    refine lv_iload_n hx hb d_RF_clashes_2 rfl (lv_at hl 0 rfl) ?_
    refine lv_aload_n hx hb d_RF_clashes_3 rfl (lv_at hl 1 rfl) ?_
    refine va_get (D := D) (ci := 3) (v := .ref wa) (C := "RayField") (T := F_RF) (N := 5) hx hb hts in_RF hown hK hP 0 rfl rfl 0 (by decide) (hts _ w_19) (fun _ h9 => h9) rfl d_RF_clashes_4 ?_
    refine va_alen hx hb hK hP 1 0 rfl rfl (v := nI 64) rfl d_RF_clashes_7 ?_
    refine lv_icmp_ge (tgt := 38) hx hb d_RF_clashes_8 (by decide) (fun c_1 => ?_) (fun c_1 => absurd (nI_le (Nat.le_refl _) (by decide)) c_1)
    refine lv_iconst (v := 0) hx hb d_RF_clashes_38 (by decide) ?_
    exact W.zret (v := 0) (ty := .boolean) hx hb hr rfl (fun t ht hW => ⟨_, rfl, (rf_F (fun ⟨k, hk, w0, h1, h2⟩ => hJ k hk w0 h1 h2)), ht⟩) (fun _ h => absurd h List.not_mem_nil) d_RF_clashes_39
  · obtain ⟨hl, hJ⟩ := hI
    refine lv_iload_n hx hb d_RF_clashes_2 rfl (lv_at hl 0 rfl) ?_
    refine lv_aload_n hx hb d_RF_clashes_3 rfl (lv_at hl 1 rfl) ?_
    refine va_get (D := D) (ci := 3) (v := .ref wa) (C := "RayField") (T := F_RF) (N := 5) hx hb hts in_RF hown hK hP 0 rfl rfl 0 (by decide) (hts _ w_19) (fun _ h9 => h9) rfl d_RF_clashes_4 ?_
    refine va_alen hx hb hK hP 1 0 rfl rfl (v := nI 64) rfl d_RF_clashes_7 ?_
    refine lv_icmp_ge (tgt := 38) hx hb d_RF_clashes_8 (by decide) (fun c_2 => absurd c_2 (nI_ge hi (by decide))) (fun c_2 => ?_)
    refine lv_aload_n hx hb d_RF_clashes_11 rfl (lv_at hl 1 rfl) ?_
    refine va_get (D := D) (ci := 3) (v := .ref wa) (C := "RayField") (T := F_RF) (N := 5) hx hb hts in_RF hown hK hP 0 rfl rfl 0 (by decide) (hts _ w_19) (fun _ h9 => h9) rfl d_RF_clashes_12 ?_
    refine lv_iload_n hx hb d_RF_clashes_15 rfl (lv_at hl 0 rfl) ?_
    refine rf_aldq hx hb hK hP 1 0 rfl rfl hi (by decide) d_RF_clashes_16 ?_
    refine rf_topq (fun e_3 => ?_) (fun q_4 e_3 => ?_)
    · refine lv_astore_nN (lv' := [(3, .null), (2, .int (nI i)), (0, .ref x), (1, .ref qv)]) hx hb d_RF_clashes_17 rfl hl (by decide) rfl (fun ls hl => ?_)
      refine lv_aload_nN hx hb d_RF_clashes_18 rfl (lv_at hl 0 rfl) ?_
      refine lv_ifnullN (tgt := 32) hx hb d_RF_clashes_19 (by decide) ?_
      refine lv_iinc (v := (nI (i + 1))) (lv' := [(2, .int (nI (i + 1))), (3, .null), (0, .ref x), (1, .ref qv)]) hx hb d_RF_clashes_32 hl (k := 1) rfl (nI_1 i) (by decide) rfl (fun ls hl => ?_)
      refine lv_goto (tgt := 2) hx hb d_RF_clashes_35 (by decide) ?_
      exact hk _ ⟨lv_sub hl [0, 2, 3] rfl, lt_s hJ (fun w0 z => by rw [hw.non hi e_3] at z; cases z)⟩
    · obtain ⟨w_5, a_6, a_7, a_8⟩ := hw.get hi e_3
      have hP_9 := rf_pl hP a_7 a_8
      refine lv_astore_n (lv' := [(3, .ref q_4), (2, .int (nI i)), (0, .ref x), (1, .ref qv)]) hx hb d_RF_clashes_17 rfl hl (by decide) rfl (fun ls hl => ?_)
      refine lv_aload_n hx hb d_RF_clashes_18 rfl (lv_at hl 0 rfl) ?_
      refine lv_ifnull hx hb d_RF_clashes_19 ?_
      refine lv_aload_n hx hb d_RF_clashes_22 rfl (lv_at hl 3 rfl) ?_
      refine lv_aload_n hx hb d_RF_clashes_23 rfl (lv_at hl 0 rfl) ?_
      refine vp_callSi (va_Run.run (rf_runV (As := [.ref q_4]) (rest := []) S0 ml_RF_115 (c_Wall_clashesWith l D (x_t cW cM) qv q_4 v w_5) hE (va_recv hK hPv (ci := 0) (q0 := 0) rfl rfl) (va_P.app hPv hP_9) ⟨rfl, rfl, Nat.le_of_ble_eq_true rfl, Nat.le_of_ble_eq_true rfl⟩ rfl hl.1 rfl (Nat.le_of_ble_eq_true rfl) d_RF_clashes_24 ⟨Nat.zero_le _, Nat.zero_le _⟩)) (fun r_10 h_11 => ?_)
      refine lv_if_eq (tgt := 32) hx hb d_RF_clashes_27 (by decide) (fun c_12 => ?_) (fun c_12 => ?_)
      · refine lv_iinc (v := (nI (i + 1))) (lv' := [(2, .int (nI (i + 1))), (3, .ref q_4), (0, .ref x), (1, .ref qv)]) hx hb d_RF_clashes_32 hl (k := 1) rfl (nI_1 i) (by decide) rfl (fun ls hl => ?_)
        refine lv_goto (tgt := 2) hx hb d_RF_clashes_35 (by decide) ?_
        exact hk _ ⟨lv_sub hl [0, 2, 3] rfl, lt_s hJ (fun w0 z => by rw [a_6] at z; cases z; exact (h_11.f c_12))⟩
      · refine lv_iconst (v := 1) hx hb d_RF_clashes_30 (by decide) ?_
        exact W.zret (v := 1) (ty := .boolean) hx hb hr rfl (fun t ht hW => ⟨_, rfl, (rf_T ⟨i, hi, w_5, a_6, (h_11.t c_12)⟩), ht⟩) (fun _ h => absurd h List.not_mem_nil) d_RF_clashes_31
set_option maxHeartbeats 4000000 in
set_option maxRecDepth 100000 in
theorem c_RF_on (l : Launch) (D : va_G) (x wa ma : Nat) (wc mc : Int32) (ry : Option Nat) (cW cM : ClassId) (wf mf : Nat → Option Nat) (L : List Nat) (f : Nat → va_E) (wl : Nat → Option Q4) (hw : rf_walls L f wf wl) (px py : Int32) : Met l y_RF_on (.code y_RF_on b_RF_on 5 (some (.int)) :: BIG) { frames := 3, cells := 0, slots := 0, locals := 120 } (rf_Pc D (x_t cW cM) [.ref x, .int px, .int py] (fun h => va_P D vwCl (x_3 x wa ma wc mc ry cW cM wf mf ++ va_pl L f) h)) (vp_Si (fun r => (m_place px py 4000 ∧ rf_First (fun k => ∃ w, wl k = some w ∧ m_cov w px py) r) ∨ (¬ m_place px py 4000 ∧ r = -1))) 0 0 (fun _ => False) := by
  refine Met.ofW (cc := b_RF_on) (maxL := 5) (ret := (some (.int))) (by decide) rfl ?_
  intro p e s m args below meth c s₁ B hml hv
  obtain ⟨rfl, hE, hP⟩ := hv
  have hx := B.exec
  have hb := B.bytes
  have hr := B.returns
  have hts : ∀ w ∈ BIG, w.before [.ref x, .int px, .int py].toArray s = true := fun w h => atoms_spec (ws := .code y_RF_on b_RF_on 5 (some (.int)) :: BIG) B.pre w (List.mem_cons_of_mem _ h)
  have hown : s.vm.findClass "RayField" = some m.cls := findClass_of_methodNamed B.named
  have hlocks := B.notSynchronized
  have hK := hE.2
  have S0 : CallFix p m c b_RF_on 5 s [.ref x, .int px, .int py].toArray BIG "RayField" := ⟨hx, hb, hml, hown, hts⟩
  have hl := lv_entry ([.ref x, .int px, .int py]) (n := 5) (Nat.le_of_ble_eq_true rfl)
  rw [lg_entry_eq]
  generalize (lg_sl ([.ref x, .int px, .int py]) ++ List.replicate (5 - (lg_sl ([.ref x, .int px, .int py])).length) Slot.unset).toArray = ls at hl ⊢
  have hl : lv_has ls 5 [(0, .ref x), (1, .int px), (2, .int py)] := hl
  have hP : va_P D vwCl (x_3 x wa ma wc mc ry cW cM wf mf ++ va_pl L f) s.heap := hP
  refine lv_iload_n hx hb d_RF_on_0 rfl (lv_at hl 1 rfl) ?_
  refine lv_iload_n hx hb d_RF_on_1 rfl (lv_at hl 2 rfl) ?_
  refine lv_sipush (v := 4000) hx hb d_RF_on_2 (by decide) ?_
  refine vp_callSi (va_Run.run (rf_runS (As := [.int px, .int py, .int 4000]) (rest := []) S0 ml_RF_21 (c_RF_isPlace l D (x_t cW cM) px py 4000) hE trivial ⟨rfl, rfl, Nat.le_of_ble_eq_true rfl, Nat.le_of_ble_eq_true rfl⟩ rfl hl.1 rfl (Nat.le_of_ble_eq_true rfl) d_RF_on_5 ⟨Nat.zero_le _, Nat.zero_le _⟩)) (fun r_1 h_2 => ?_)
  refine lv_if_ne (tgt := 13) hx hb d_RF_on_8 (by decide) (fun c_3 => ?_) (fun c_3 => ?_)
  · refine lv_iconst (v := 0) hx hb d_RF_on_13 (by decide) ?_
    refine rf_topi nI_0.symm ?_
    refine lv_istore_n (lv' := [(3, .int (nI 0)), (0, .ref x), (1, .int px), (2, .int py)]) hx hb d_RF_on_14 rfl hl (by decide) rfl (fun ls hl => ?_)
    refine rf_loopP 15 64 (fun i ls => lv_has ls 5 [(3, .int (nI i)), (0, .ref x), (1, .int px), (2, .int py)] ∧ (∀ j, j < i → ¬ ∃ w, wl j = some w ∧ m_cov w px py)) (fun ls hI => ?_) (fun i ls hi hI hk => ?_) 0 (Nat.zero_le _) ⟨lv_sub hl [0, 1, 2, 3] rfl, fun j hj => absurd hj (Nat.not_lt_zero _)⟩
    · obtain ⟨hl, hJ⟩ := hI
      refine lv_iload_n hx hb d_RF_on_15 rfl (lv_at hl 0 rfl) ?_
      refine lv_aload_n hx hb d_RF_on_16 rfl (lv_at hl 1 rfl) ?_
      refine va_get (D := D) (ci := 3) (v := .ref wa) (C := "RayField") (T := F_RF) (N := 5) hx hb hts in_RF hown hK hP 0 rfl rfl 0 (by decide) (hts _ w_19) (fun _ h9 => h9) rfl d_RF_on_17 ?_
      refine va_alen hx hb hK hP 1 0 rfl rfl (v := nI 64) rfl d_RF_on_20 ?_
      refine lv_icmp_ge (tgt := 55) hx hb d_RF_on_21 (by decide) (fun c_4 => ?_) (fun c_4 => absurd (nI_le (Nat.le_refl _) (by decide)) c_4)
      refine lv_iconst (v := -1) hx hb d_RF_on_55 (by decide) ?_
      exact W.iret (v := (-1)) hx hb hr (fun t ht hW => ⟨_, rfl, (Or.inl ⟨(h_2.t c_3), Or.inr ⟨rfl, hJ⟩⟩), ht⟩) (fun _ h => absurd h List.not_mem_nil) d_RF_on_56
    · obtain ⟨hl, hJ⟩ := hI
      refine lv_iload_n hx hb d_RF_on_15 rfl (lv_at hl 0 rfl) ?_
      refine lv_aload_n hx hb d_RF_on_16 rfl (lv_at hl 1 rfl) ?_
      refine va_get (D := D) (ci := 3) (v := .ref wa) (C := "RayField") (T := F_RF) (N := 5) hx hb hts in_RF hown hK hP 0 rfl rfl 0 (by decide) (hts _ w_19) (fun _ h9 => h9) rfl d_RF_on_17 ?_
      refine va_alen hx hb hK hP 1 0 rfl rfl (v := nI 64) rfl d_RF_on_20 ?_
      refine lv_icmp_ge (tgt := 55) hx hb d_RF_on_21 (by decide) (fun c_5 => absurd c_5 (nI_ge hi (by decide))) (fun c_5 => ?_)
      refine lv_aload_n hx hb d_RF_on_24 rfl (lv_at hl 1 rfl) ?_
      refine va_get (D := D) (ci := 3) (v := .ref wa) (C := "RayField") (T := F_RF) (N := 5) hx hb hts in_RF hown hK hP 0 rfl rfl 0 (by decide) (hts _ w_19) (fun _ h9 => h9) rfl d_RF_on_25 ?_
      refine lv_iload_n hx hb d_RF_on_28 rfl (lv_at hl 0 rfl) ?_
      refine rf_aldq hx hb hK hP 1 0 rfl rfl hi (by decide) d_RF_on_29 ?_
      refine rf_topq (fun e_6 => ?_) (fun q_7 e_6 => ?_)
      · refine lv_astoreN (lv' := [(4, .null), (3, .int (nI i)), (0, .ref x), (1, .int px), (2, .int py)]) hx hb d_RF_on_30 hl (by decide) rfl (fun ls hl => ?_)
        refine lv_aloadN hx hb d_RF_on_32 (lv_at hl 0 rfl) ?_
        refine lv_ifnullN (tgt := 49) hx hb d_RF_on_34 (by decide) ?_
        refine lv_iinc (v := (nI (i + 1))) (lv' := [(3, .int (nI (i + 1))), (4, .null), (0, .ref x), (1, .int px), (2, .int py)]) hx hb d_RF_on_49 hl (k := 1) rfl (nI_1 i) (by decide) rfl (fun ls hl => ?_)
        refine lv_goto (tgt := 15) hx hb d_RF_on_52 (by decide) ?_
        exact hk _ ⟨lv_sub hl [0, 2, 3, 4] rfl, lt_s hJ (fun ⟨w0, z, z2⟩ => by rw [hw.non hi e_6] at z; cases z)⟩
      · obtain ⟨w_8, a_9, a_10, a_11⟩ := hw.get hi e_6
        have hP_12 := rf_pl hP a_10 a_11
        refine lv_astore (lv' := [(4, .ref q_7), (3, .int (nI i)), (0, .ref x), (1, .int px), (2, .int py)]) hx hb d_RF_on_30 hl (by decide) rfl (fun ls hl => ?_)
        refine lv_aload hx hb d_RF_on_32 (lv_at hl 0 rfl) ?_
        refine lv_ifnull hx hb d_RF_on_34 ?_
        refine lv_aload hx hb d_RF_on_37 (lv_at hl 0 rfl) ?_
        refine lv_iload_n hx hb d_RF_on_39 rfl (lv_at hl 3 rfl) ?_
        refine lv_iload_n hx hb d_RF_on_40 rfl (lv_at hl 4 rfl) ?_
        refine vp_callSi (va_Run.run (rf_runV (As := [.int px, .int py]) (rest := []) S0 ml_RF_98 (c_Wall_covers l D (x_t cW cM) q_7 w_8 px py) hE (va_recv hK hP_12 (ci := 0) (q0 := 0) rfl rfl) hP_12 ⟨rfl, rfl, Nat.le_of_ble_eq_true rfl, Nat.le_of_ble_eq_true rfl⟩ rfl hl.1 rfl (Nat.le_of_ble_eq_true rfl) d_RF_on_41 ⟨Nat.zero_le _, Nat.zero_le _⟩)) (fun r_13 h_14 => ?_)
        refine lv_if_eq (tgt := 49) hx hb d_RF_on_44 (by decide) (fun c_15 => ?_) (fun c_15 => ?_)
        · refine lv_iinc (v := (nI (i + 1))) (lv' := [(3, .int (nI (i + 1))), (4, .ref q_7), (0, .ref x), (1, .int px), (2, .int py)]) hx hb d_RF_on_49 hl (k := 1) rfl (nI_1 i) (by decide) rfl (fun ls hl => ?_)
          refine lv_goto (tgt := 15) hx hb d_RF_on_52 (by decide) ?_
          exact hk _ ⟨lv_sub hl [0, 2, 3, 4] rfl, lt_s hJ (fun ⟨w0, z, z2⟩ => by rw [a_9] at z; cases z; exact (h_14.f c_15) z2)⟩
        · refine lv_iload_n hx hb d_RF_on_47 rfl (lv_at hl 1 rfl) ?_
          exact W.iret (v := nI i) hx hb hr (fun t ht hW => ⟨_, rfl, (Or.inl ⟨(h_2.t c_3), Or.inl ⟨i, hi, rfl, ⟨w_8, a_9, (h_14.t c_15)⟩, hJ⟩⟩), ht⟩) (fun _ h => absurd h List.not_mem_nil) d_RF_on_48
  · refine lv_iconst (v := -1) hx hb d_RF_on_11 (by decide) ?_
    exact W.iret (v := (-1)) hx hb hr (fun t ht hW => ⟨_, rfl, (Or.inr ⟨(h_2.f c_3), rfl⟩), ht⟩) (fun _ h => absurd h List.not_mem_nil) d_RF_on_12
set_option maxHeartbeats 4000000 in
set_option maxRecDepth 100000 in
theorem c_RF_meetingAt (l : Launch) (D : va_G) (x wa ma : Nat) (wc mc : Int32) (ry : Option Nat) (cW cM : ClassId) (wf mf : Nat → Option Nat) (L : List Nat) (f : Nat → va_E) (n : Nat) (hn : n ≤ 64) (hmc : mc = nI n) (i : Int32) : Met l y_RF_meetingAt (.code y_RF_meetingAt b_RF_meetingAt 2 (some (.object "RayField$Meeting")) :: BIG) { frames := 0, cells := 0, slots := 0, locals := 0 } (rf_Pc D (x_t cW cM) [.ref x, .int i] (fun h => va_P D vwCl (x_3 x wa ma wc mc ry cW cM wf mf ++ va_pl L f) h)) (va_Sq (fun r => (∃ k, k < n ∧ i = nI k ∧ r = mf k) ∨ ((∀ k, k < n → ¬ i = nI k) ∧ r = none))) 0 0 (fun _ => False) := by
  refine Met.ofW (cc := b_RF_meetingAt) (maxL := 2) (ret := (some (.object "RayField$Meeting"))) (by decide) rfl ?_
  intro p e s m args below meth c s₁ B hml hv
  obtain ⟨rfl, hE, hP⟩ := hv
  have hx := B.exec
  have hb := B.bytes
  have hr := B.returns
  have hts : ∀ w ∈ BIG, w.before [.ref x, .int i].toArray s = true := fun w h => atoms_spec (ws := .code y_RF_meetingAt b_RF_meetingAt 2 (some (.object "RayField$Meeting")) :: BIG) B.pre w (List.mem_cons_of_mem _ h)
  have hown : s.vm.findClass "RayField" = some m.cls := findClass_of_methodNamed B.named
  have hlocks := B.notSynchronized
  have hK := hE.2
  have S0 : CallFix p m c b_RF_meetingAt 2 s [.ref x, .int i].toArray BIG "RayField" := ⟨hx, hb, hml, hown, hts⟩
  have hl := lv_entry ([.ref x, .int i]) (n := 2) (Nat.le_of_ble_eq_true rfl)
  rw [lg_entry_eq]
  generalize (lg_sl ([.ref x, .int i]) ++ List.replicate (2 - (lg_sl ([.ref x, .int i])).length) Slot.unset).toArray = ls at hl ⊢
  have hl : lv_has ls 2 [(0, .ref x), (1, .int i)] := hl
  have hP : va_P D vwCl (x_3 x wa ma wc mc ry cW cM wf mf ++ va_pl L f) s.heap := hP
  refine lv_iload_n hx hb d_RF_meetingAt_0 rfl (lv_at hl 1 rfl) ?_
  refine lv_if_lt (tgt := 30) hx hb d_RF_meetingAt_1 (by decide) (fun c_1 => ?_) (fun c_1 => ?_)
  · refine lv_null hx hb d_RF_meetingAt_30 ?_
    exact W.aret (v := va_rf (none)) hx hb hr (Or.inl ⟨_, rfl⟩) (va_rf_or _) (fun t ht hW => ⟨none, rfl, (Or.inr ⟨rf_ix0 (n := n) (by omega) (Or.inl c_1), rfl⟩), ht⟩) (fun _ h => absurd h List.not_mem_nil) d_RF_meetingAt_31
  · refine lv_iload_n hx hb d_RF_meetingAt_4 rfl (lv_at hl 1 rfl) ?_
    refine lv_aload_n hx hb d_RF_meetingAt_5 rfl (lv_at hl 0 rfl) ?_
    refine va_get (D := D) (ci := 3) (v := .int mc) (C := "RayField") (T := F_RF) (N := 5) hx hb hts in_RF hown hK hP 0 rfl rfl 4 (by decide) (hts _ w_23) (fun _ h9 => h9) rfl d_RF_meetingAt_6 ?_
    refine lv_icmp_ge (tgt := 30) hx hb d_RF_meetingAt_9 (by decide) (fun c_2 => ?_) (fun c_2 => ?_)
    · refine lv_null hx hb d_RF_meetingAt_30 ?_
      exact W.aret (v := va_rf (none)) hx hb hr (Or.inl ⟨_, rfl⟩) (va_rf_or _) (fun t ht hW => ⟨none, rfl, (Or.inr ⟨rf_ix0 (n := n) (by omega) (Or.inr (by rw [← hmc]; exact c_2)), rfl⟩), ht⟩) (fun _ h => absurd h List.not_mem_nil) d_RF_meetingAt_31
    · refine lv_iload_n hx hb d_RF_meetingAt_12 rfl (lv_at hl 1 rfl) ?_
      refine lv_aload_n hx hb d_RF_meetingAt_13 rfl (lv_at hl 0 rfl) ?_
      refine va_get (D := D) (ci := 3) (v := .ref ma) (C := "RayField") (T := F_RF) (N := 5) hx hb hts in_RF hown hK hP 0 rfl rfl 3 (by decide) (hts _ w_22) (fun _ h9 => h9) rfl d_RF_meetingAt_14 ?_
      refine va_alen hx hb hK hP 2 1 rfl rfl (v := nI 64) rfl d_RF_meetingAt_17 ?_
      refine lv_icmp_ge (tgt := 30) hx hb d_RF_meetingAt_18 (by decide) (fun c_3 => ?_) (fun c_3 => ?_)
      · refine lv_null hx hb d_RF_meetingAt_30 ?_
        exact W.aret (v := va_rf (none)) hx hb hr (Or.inl ⟨_, rfl⟩) (va_rf_or _) (fun t ht hW => ⟨none, rfl, (Or.inr ⟨rf_ix0 (n := n) (by omega) (Or.inr (Int32.le_trans (nI_le hn (by decide)) c_3)), rfl⟩), ht⟩) (fun _ h => absurd h List.not_mem_nil) d_RF_meetingAt_31
      · obtain ⟨k, hk, ek⟩ := rf_ix (n := n) (by omega) c_1 (by rw [← hmc]; exact c_2)
        subst ek
        refine lv_aload_n hx hb d_RF_meetingAt_21 rfl (lv_at hl 0 rfl) ?_
        refine va_get (D := D) (ci := 3) (v := .ref ma) (C := "RayField") (T := F_RF) (N := 5) hx hb hts in_RF hown hK hP 0 rfl rfl 3 (by decide) (hts _ w_22) (fun _ h9 => h9) rfl d_RF_meetingAt_22 ?_
        refine lv_iload_n hx hb d_RF_meetingAt_25 rfl (lv_at hl 1 rfl) ?_
        refine rf_aldq hx hb hK hP 2 1 rfl rfl (Nat.lt_of_lt_of_le hk hn) (by decide) d_RF_meetingAt_26 ?_
        refine rf_topq (fun e_4 => ?_) (fun q_5 e_4 => ?_)
        · refine lv_goto (tgt := 31) hx hb d_RF_meetingAt_27 (by decide) ?_
          exact W.aret (v := va_rf (none)) hx hb hr (Or.inl ⟨_, rfl⟩) (va_rf_or _) (fun t ht hW => ⟨none, rfl, (Or.inl ⟨k, hk, rfl, e_4.symm⟩), ht⟩) (fun _ h => absurd h List.not_mem_nil) d_RF_meetingAt_31
        · refine lv_goto (tgt := 31) hx hb d_RF_meetingAt_27 (by decide) ?_
          exact W.aret (v := va_rf (some q_5)) hx hb hr (Or.inl ⟨_, rfl⟩) (va_rf_or _) (fun t ht hW => ⟨some q_5, rfl, (Or.inl ⟨k, hk, rfl, e_4.symm⟩), ht⟩) (fun _ h => absurd h List.not_mem_nil) d_RF_meetingAt_31
set_option maxHeartbeats 4000000 in
set_option maxRecDepth 100000 in
theorem c_RF_met (l : Launch) (D : va_G) (x wa ma : Nat) (wc mc : Int32) (ry : Option Nat) (cW cM : ClassId) (wf mf : Nat → Option Nat) (L : List Nat) (f : Nat → va_E) : Met l y_RF_met (.code y_RF_met b_RF_met 1 (some (.int)) :: BIG) { frames := 0, cells := 0, slots := 0, locals := 0 } (rf_Pc D (x_t cW cM) [.ref x] (fun h => va_P D vwCl (x_3 x wa ma wc mc ry cW cM wf mf ++ va_pl L f) h)) (vp_Si (fun r => (ry = none ∧ r = -1) ∨ (∃ q, ry = some q ∧ r = mc))) 0 0 (fun _ => False) := by
  refine Met.ofW (cc := b_RF_met) (maxL := 1) (ret := (some (.int))) (by decide) rfl ?_
  intro p e s m args below meth c s₁ B hml hv
  obtain ⟨rfl, hE, hP⟩ := hv
  have hx := B.exec
  have hb := B.bytes
  have hr := B.returns
  have hts : ∀ w ∈ BIG, w.before [.ref x].toArray s = true := fun w h => atoms_spec (ws := .code y_RF_met b_RF_met 1 (some (.int)) :: BIG) B.pre w (List.mem_cons_of_mem _ h)
  have hown : s.vm.findClass "RayField" = some m.cls := findClass_of_methodNamed B.named
  have hlocks := B.notSynchronized
  have hK := hE.2
  have S0 : CallFix p m c b_RF_met 1 s [.ref x].toArray BIG "RayField" := ⟨hx, hb, hml, hown, hts⟩
  have hl := lv_entry ([.ref x]) (n := 1) (Nat.le_of_ble_eq_true rfl)
  rw [lg_entry_eq]
  generalize (lg_sl ([.ref x]) ++ List.replicate (1 - (lg_sl ([.ref x])).length) Slot.unset).toArray = ls at hl ⊢
  have hl : lv_has ls 1 [(0, .ref x)] := hl
  have hP : va_P D vwCl (x_3 x wa ma wc mc ry cW cM wf mf ++ va_pl L f) s.heap := hP
  refine lv_aload_n hx hb d_RF_met_0 rfl (lv_at hl 0 rfl) ?_
  refine va_get (D := D) (ci := 3) (v := va_rf ry) (C := "RayField") (T := F_RF) (N := 5) hx hb hts in_RF hown hK hP 0 rfl rfl 2 (by decide) (hts _ w_21) (fun _ h9 => h9) rfl d_RF_met_1 ?_
  refine rf_topq (fun e_1 => ?_) (fun q_2 e_1 => ?_)
  · refine lv_ifnonnullN hx hb d_RF_met_4 ?_
    refine lv_iconst (v := -1) hx hb d_RF_met_7 (by decide) ?_
    refine lv_goto (tgt := 15) hx hb d_RF_met_8 (by decide) ?_
    exact W.iret (v := (-1)) hx hb hr (fun t ht hW => ⟨_, rfl, (Or.inl ⟨e_1, rfl⟩), ht⟩) (fun _ h => absurd h List.not_mem_nil) d_RF_met_15
  · refine lv_ifnonnull (tgt := 11) hx hb d_RF_met_4 (by decide) ?_
    refine lv_aload_n hx hb d_RF_met_11 rfl (lv_at hl 0 rfl) ?_
    refine va_get (D := D) (ci := 3) (v := .int mc) (C := "RayField") (T := F_RF) (N := 5) hx hb hts in_RF hown hK hP 0 rfl rfl 4 (by decide) (hts _ w_23) (fun _ h9 => h9) rfl d_RF_met_12 ?_
    exact W.iret (v := mc) hx hb hr (fun t ht hW => ⟨_, rfl, (Or.inr ⟨_, e_1, rfl⟩), ht⟩) (fun _ h => absurd h List.not_mem_nil) d_RF_met_15
end
section
set_option maxHeartbeats 4000000 in
set_option maxRecDepth 100000 in
theorem c_RF_wall (l : Launch) (D : va_G) (x wa ma : Nat) (wc mc : Int32) (ry : Option Nat) (cW cM : ClassId) (wf mf : Nat → Option Nat) (L : List Nat) (f : Nat → va_E) (wl : Nat → Option Q4) (ra : Q4) (n : Nat) (g : Nat → Nat) (hn : n ≤ 64) (hmc : mc = nI n) (hM : rf_meets L f mf wl ra n g) (i : Int32) : Met l y_RF_wall (.code y_RF_wall b_RF_wall 3 (some (.int)) :: BIG) { frames := 1, cells := 0, slots := 0, locals := 40 } (rf_Pc D (x_t cW cM) [.ref x, .int i] (fun h => va_P D vwCl (x_3 x wa ma wc mc ry cW cM wf mf ++ va_pl L f) h)) (vp_Si (fun r => (∃ k, k < n ∧ i = nI k ∧ r = nI (g k)) ∨ ((∀ k, k < n → ¬ i = nI k) ∧ r = -1))) 0 0 (fun _ => False) := by
  refine Met.ofW (cc := b_RF_wall) (maxL := 3) (ret := (some (.int))) (by decide) rfl ?_
  intro p e s m args below meth c s₁ B hml hv
  obtain ⟨rfl, hE, hP⟩ := hv
  have hx := B.exec
  have hb := B.bytes
  have hr := B.returns
  have hts : ∀ w ∈ BIG, w.before [.ref x, .int i].toArray s = true := fun w h => atoms_spec (ws := .code y_RF_wall b_RF_wall 3 (some (.int)) :: BIG) B.pre w (List.mem_cons_of_mem _ h)
  have hown : s.vm.findClass "RayField" = some m.cls := findClass_of_methodNamed B.named
  have hlocks := B.notSynchronized
  have hK := hE.2
  have S0 : CallFix p m c b_RF_wall 3 s [.ref x, .int i].toArray BIG "RayField" := ⟨hx, hb, hml, hown, hts⟩
  have hl := lv_entry ([.ref x, .int i]) (n := 3) (Nat.le_of_ble_eq_true rfl)
  rw [lg_entry_eq]
  generalize (lg_sl ([.ref x, .int i]) ++ List.replicate (3 - (lg_sl ([.ref x, .int i])).length) Slot.unset).toArray = ls at hl ⊢
  have hl : lv_has ls 3 [(0, .ref x), (1, .int i)] := hl
  have hP : va_P D vwCl (x_3 x wa ma wc mc ry cW cM wf mf ++ va_pl L f) s.heap := hP
  refine lv_aload_n hx hb d_RF_wall_0 rfl (lv_at hl 0 rfl) ?_
  refine lv_iload_n hx hb d_RF_wall_1 rfl (lv_at hl 1 rfl) ?_
  refine va_csq (va_Run.run (rf_runV (As := [.int i]) (rest := []) S0 ml_RF_64 (c_RF_meetingAt l D x wa ma wc mc ry cW cM wf mf L f n hn hmc i) hE (va_recv hK hP (ci := 3) (q0 := 0) rfl rfl) hP ⟨rfl, rfl, Nat.le_of_ble_eq_true rfl, Nat.le_of_ble_eq_true rfl⟩ rfl hl.1 rfl (Nat.le_of_ble_eq_true rfl) d_RF_wall_2 ⟨Nat.zero_le _, Nat.zero_le _⟩)) (fun r_1 h_2 => ?_)
  refine rf_topq (fun e_3 => ?_) (fun q_4 e_3 => ?_)
  · have h0 := rf_mt_none hM h_2 e_3
    refine lv_astore_nN (lv' := [(2, .null), (0, .ref x), (1, .int i)]) hx hb d_RF_wall_5 rfl hl (by decide) rfl (fun ls hl => ?_)
    refine lv_aload_nN hx hb d_RF_wall_6 rfl (lv_at hl 0 rfl) ?_
    refine lv_ifnonnullN hx hb d_RF_wall_7 ?_
    refine lv_iconst (v := -1) hx hb d_RF_wall_10 (by decide) ?_
    refine lv_goto (tgt := 18) hx hb d_RF_wall_11 (by decide) ?_
    exact W.iret (v := (-1)) hx hb hr (fun t ht hW => ⟨_, rfl, (Or.inr ⟨h0, rfl⟩), ht⟩) (fun _ h => absurd h List.not_mem_nil) d_RF_wall_18
  · obtain ⟨k, w, hk, ek, b1, b2, b3⟩ := rf_mt_some hM h_2 e_3
    have hPm := rf_pl hP b1 b3
    refine lv_astore_n (lv' := [(2, .ref q_4), (0, .ref x), (1, .int i)]) hx hb d_RF_wall_5 rfl hl (by decide) rfl (fun ls hl => ?_)
    refine lv_aload_n hx hb d_RF_wall_6 rfl (lv_at hl 0 rfl) ?_
    refine lv_ifnonnull (tgt := 14) hx hb d_RF_wall_7 (by decide) ?_
    refine lv_aload_n hx hb d_RF_wall_14 rfl (lv_at hl 0 rfl) ?_
    refine va_getN (D := D) (ci := 2) (v := .int (nI (g k))) (C := "RayField$Meeting") (T := F_Meeting) (N := 5) hx hb hts in_Meeting hown hK hPm 0 rfl rfl 0 (by decide) (va_Nw.use rfl (hE.1.1 _ w_128 rfl)) (fun _ h9 => h9) rfl d_RF_wall_15 ?_
    exact W.iret (v := nI (g k)) hx hb hr (fun t ht hW => ⟨_, rfl, (Or.inl ⟨k, hk, ek, rfl⟩), ht⟩) (fun _ h => absurd h List.not_mem_nil) d_RF_wall_18
set_option maxHeartbeats 4000000 in
set_option maxRecDepth 100000 in
theorem c_RF_isRight (l : Launch) (D : va_G) (x wa ma : Nat) (wc mc : Int32) (ry : Option Nat) (cW cM : ClassId) (wf mf : Nat → Option Nat) (L : List Nat) (f : Nat → va_E) (wl : Nat → Option Q4) (ra : Q4) (n : Nat) (g : Nat → Nat) (hn : n ≤ 64) (hmc : mc = nI n) (hM : rf_meets L f mf wl ra n g) (i : Int32) : Met l y_RF_isRight (.code y_RF_isRight b_RF_isRight 3 (some (.boolean)) :: BIG) { frames := 1, cells := 0, slots := 0, locals := 40 } (rf_Pc D (x_t cW cM) [.ref x, .int i] (fun h => va_P D vwCl (x_3 x wa ma wc mc ry cW cM wf mf ++ va_pl L f) h)) (vp_Si (fun r => rf_tf r (∃ k, k < n ∧ i = nI k ∧ ∃ w, wl (g k) = some w ∧ m_p w ra < 0))) 0 0 (fun _ => False) := by
  refine Met.ofW (cc := b_RF_isRight) (maxL := 3) (ret := (some (.boolean))) (by decide) rfl ?_
  intro p e s m args below meth c s₁ B hml hv
  obtain ⟨rfl, hE, hP⟩ := hv
  have hx := B.exec
  have hb := B.bytes
  have hr := B.returns
  have hts : ∀ w ∈ BIG, w.before [.ref x, .int i].toArray s = true := fun w h => atoms_spec (ws := .code y_RF_isRight b_RF_isRight 3 (some (.boolean)) :: BIG) B.pre w (List.mem_cons_of_mem _ h)
  have hown : s.vm.findClass "RayField" = some m.cls := findClass_of_methodNamed B.named
  have hlocks := B.notSynchronized
  have hK := hE.2
  have S0 : CallFix p m c b_RF_isRight 3 s [.ref x, .int i].toArray BIG "RayField" := ⟨hx, hb, hml, hown, hts⟩
  have hl := lv_entry ([.ref x, .int i]) (n := 3) (Nat.le_of_ble_eq_true rfl)
  rw [lg_entry_eq]
  generalize (lg_sl ([.ref x, .int i]) ++ List.replicate (3 - (lg_sl ([.ref x, .int i])).length) Slot.unset).toArray = ls at hl ⊢
  have hl : lv_has ls 3 [(0, .ref x), (1, .int i)] := hl
  have hP : va_P D vwCl (x_3 x wa ma wc mc ry cW cM wf mf ++ va_pl L f) s.heap := hP
  refine lv_aload_n hx hb d_RF_isRight_0 rfl (lv_at hl 0 rfl) ?_
  refine lv_iload_n hx hb d_RF_isRight_1 rfl (lv_at hl 1 rfl) ?_
  refine va_csq (va_Run.run (rf_runV (As := [.int i]) (rest := []) S0 ml_RF_64 (c_RF_meetingAt l D x wa ma wc mc ry cW cM wf mf L f n hn hmc i) hE (va_recv hK hP (ci := 3) (q0 := 0) rfl rfl) hP ⟨rfl, rfl, Nat.le_of_ble_eq_true rfl, Nat.le_of_ble_eq_true rfl⟩ rfl hl.1 rfl (Nat.le_of_ble_eq_true rfl) d_RF_isRight_2 ⟨Nat.zero_le _, Nat.zero_le _⟩)) (fun r_1 h_2 => ?_)
  refine rf_topq (fun e_3 => ?_) (fun q_4 e_3 => ?_)
  · have h0 := rf_mt_none hM h_2 e_3
    refine lv_astore_nN (lv' := [(2, .null), (0, .ref x), (1, .int i)]) hx hb d_RF_isRight_5 rfl hl (by decide) rfl (fun ls hl => ?_)
    refine lv_aload_nN hx hb d_RF_isRight_6 rfl (lv_at hl 0 rfl) ?_
    refine lv_ifnullN (tgt := 21) hx hb d_RF_isRight_7 (by decide) ?_
    refine lv_iconst (v := 0) hx hb d_RF_isRight_21 (by decide) ?_
    exact W.zret (v := 0) (ty := .boolean) hx hb hr rfl (fun t ht hW => ⟨_, rfl, (rf_F (fun ⟨k, hk, ek, _⟩ => h0 k hk ek)), ht⟩) (fun _ h => absurd h List.not_mem_nil) d_RF_isRight_22
  · obtain ⟨k, w, hk, ek, b1, b2, b3⟩ := rf_mt_some hM h_2 e_3
    have hPm := rf_pl hP b1 b3
    refine lv_astore_n (lv' := [(2, .ref q_4), (0, .ref x), (1, .int i)]) hx hb d_RF_isRight_5 rfl hl (by decide) rfl (fun ls hl => ?_)
    refine lv_aload_n hx hb d_RF_isRight_6 rfl (lv_at hl 0 rfl) ?_
    refine lv_ifnull hx hb d_RF_isRight_7 ?_
    refine lv_aload_n hx hb d_RF_isRight_10 rfl (lv_at hl 0 rfl) ?_
    refine va_getN (D := D) (ci := 2) (v := .int (m_fr w ra)) (C := "RayField$Meeting") (T := F_Meeting) (N := 5) hx hb hts in_Meeting hown hK hPm 0 rfl rfl 1 (by decide) (va_Nw.use rfl (hE.1.1 _ w_130 rfl)) (fun _ h9 => h9) rfl d_RF_isRight_11 ?_
    refine lv_if_eq (tgt := 21) hx hb d_RF_isRight_14 (by decide) (fun c_5 => ?_) (fun c_5 => ?_)
    · refine lv_iconst (v := 0) hx hb d_RF_isRight_21 (by decide) ?_
      exact W.zret (v := 0) (ty := .boolean) hx hb hr rfl (fun t ht hW => ⟨_, rfl, (rf_F (rf_only hn hk ek b2 (P := fun w => m_p w ra < 0) (m_fr_f c_5))), ht⟩) (fun _ h => absurd h List.not_mem_nil) d_RF_isRight_22
    · refine lv_iconst (v := 1) hx hb d_RF_isRight_17 (by decide) ?_
      refine lv_goto (tgt := 22) hx hb d_RF_isRight_18 (by decide) ?_
      exact W.zret (v := 1) (ty := .boolean) hx hb hr rfl (fun t ht hW => ⟨_, rfl, (rf_T ⟨k, hk, ek, w, b2, m_fr_t c_5⟩), ht⟩) (fun _ h => absurd h List.not_mem_nil) d_RF_isRight_22
set_option maxHeartbeats 4000000 in
set_option maxRecDepth 100000 in
theorem c_RF_times (l : Launch) (D : va_G) (x wa ma : Nat) (wc mc : Int32) (ry : Option Nat) (cW cM : ClassId) (wf mf : Nat → Option Nat) (L : List Nat) (f : Nat → va_E) (wl : Nat → Option Q4) (ra : Q4) (n : Nat) (g : Nat → Nat) (hn : n ≤ 64) (hmc : mc = nI n) (hM : rf_meets L f mf wl ra n g) (i nn : Int32) : Met l y_RF_times (.code y_RF_times b_RF_times 4 (some (.long)) :: BIG) { frames := 2, cells := 0, slots := 0, locals := 80 } (rf_Pc D (x_t cW cM) [.ref x, .int i, .int nn] (fun h => va_P D vwCl (x_3 x wa ma wc mc ry cW cM wf mf ++ va_pl L f) h)) (vp_Sl (fun r => (∃ k w, k < n ∧ i = nI k ∧ wl (g k) = some w ∧ m_btw nn 0 1000000 ∧ r = m_rd (nn.toInt64 * m_abs (m_p w ra)) (m_abs (m_q w ra))) ∨ (((∀ k, k < n → ¬ i = nI k) ∨ ¬ m_btw nn 0 1000000) ∧ r = -1))) 0 0 (fun _ => False) := by
  refine Met.ofW (cc := b_RF_times) (maxL := 4) (ret := (some (.long))) (by decide) rfl ?_
  intro p e s m args below meth c s₁ B hml hv
  obtain ⟨rfl, hE, hP⟩ := hv
  have hx := B.exec
  have hb := B.bytes
  have hr := B.returns
  have hts : ∀ w ∈ BIG, w.before [.ref x, .int i, .int nn].toArray s = true := fun w h => atoms_spec (ws := .code y_RF_times b_RF_times 4 (some (.long)) :: BIG) B.pre w (List.mem_cons_of_mem _ h)
  have hown : s.vm.findClass "RayField" = some m.cls := findClass_of_methodNamed B.named
  have hlocks := B.notSynchronized
  have hK := hE.2
  have S0 : CallFix p m c b_RF_times 4 s [.ref x, .int i, .int nn].toArray BIG "RayField" := ⟨hx, hb, hml, hown, hts⟩
  have hl := lv_entry ([.ref x, .int i, .int nn]) (n := 4) (Nat.le_of_ble_eq_true rfl)
  rw [lg_entry_eq]
  generalize (lg_sl ([.ref x, .int i, .int nn]) ++ List.replicate (4 - (lg_sl ([.ref x, .int i, .int nn])).length) Slot.unset).toArray = ls at hl ⊢
  have hl : lv_has ls 4 [(0, .ref x), (1, .int i), (2, .int nn)] := hl
  have hP : va_P D vwCl (x_3 x wa ma wc mc ry cW cM wf mf ++ va_pl L f) s.heap := hP
  refine lv_aload_n hx hb d_RF_times_0 rfl (lv_at hl 0 rfl) ?_
  refine lv_iload_n hx hb d_RF_times_1 rfl (lv_at hl 1 rfl) ?_
  refine va_csq (va_Run.run (rf_runV (As := [.int i]) (rest := []) S0 ml_RF_64 (c_RF_meetingAt l D x wa ma wc mc ry cW cM wf mf L f n hn hmc i) hE (va_recv hK hP (ci := 3) (q0 := 0) rfl rfl) hP ⟨rfl, rfl, Nat.le_of_ble_eq_true rfl, Nat.le_of_ble_eq_true rfl⟩ rfl hl.1 rfl (Nat.le_of_ble_eq_true rfl) d_RF_times_2 ⟨Nat.zero_le _, Nat.zero_le _⟩)) (fun r_1 h_2 => ?_)
  refine rf_topq (fun e_3 => ?_) (fun q_4 e_3 => ?_)
  · have h0 := rf_mt_none hM h_2 e_3
    refine lv_astore_nN (lv' := [(3, .null), (0, .ref x), (1, .int i), (2, .int nn)]) hx hb d_RF_times_5 rfl hl (by decide) rfl (fun ls hl => ?_)
    refine lv_aload_nN hx hb d_RF_times_6 rfl (lv_at hl 0 rfl) ?_
    refine lv_ifnullN (tgt := 20) hx hb d_RF_times_7 (by decide) ?_
    refine lv_ldc2 (v := (-1)) hx hb hown (hts _ w_234) d_RF_times_20 ?_
    exact W.lret (v := (-1)) hx hb hr (fun t ht hW => ⟨_, rfl, (Or.inr ⟨Or.inl h0, rfl⟩), ht⟩) (fun _ h => absurd h List.not_mem_nil) d_RF_times_23
  · obtain ⟨k, w, hk, ek, b1, b2, b3⟩ := rf_mt_some hM h_2 e_3
    have hPm := rf_pl hP b1 b3
    refine lv_astore_n (lv' := [(3, .ref q_4), (0, .ref x), (1, .int i), (2, .int nn)]) hx hb d_RF_times_5 rfl hl (by decide) rfl (fun ls hl => ?_)
    refine lv_aload_n hx hb d_RF_times_6 rfl (lv_at hl 0 rfl) ?_
    refine lv_ifnull hx hb d_RF_times_7 ?_
    refine lv_iload_n hx hb d_RF_times_10 rfl (lv_at hl 3 rfl) ?_
    refine lv_iconst (v := 0) hx hb d_RF_times_11 (by decide) ?_
    refine lv_ldc (v := 1000000) hx hb hown (hts _ w_233) d_RF_times_12 ?_
    refine vp_callSi (va_Run.run (rf_runS (As := [.int nn, .int 0, .int 1000000]) (rest := []) S0 ml_RF_76 (c_RF_isBetween l D (x_t cW cM) nn 0 1000000) hE trivial ⟨rfl, rfl, Nat.le_of_ble_eq_true rfl, Nat.le_of_ble_eq_true rfl⟩ rfl hl.1 rfl (Nat.le_of_ble_eq_true rfl) d_RF_times_14 ⟨Nat.zero_le _, Nat.zero_le _⟩)) (fun r_5 h_6 => ?_)
    refine lv_if_ne (tgt := 24) hx hb d_RF_times_17 (by decide) (fun c_7 => ?_) (fun c_7 => ?_)
    · refine lv_aload_n hx hb d_RF_times_24 rfl (lv_at hl 0 rfl) ?_
      refine lv_iload_n hx hb d_RF_times_25 rfl (lv_at hl 3 rfl) ?_
      refine lv_i2l hx hb d_RF_times_26 rfl ?_
      refine lv_aload_n hx hb d_RF_times_27 rfl (lv_at hl 0 rfl) ?_
      refine va_getN (D := D) (ci := 2) (v := .long (m_abs (m_p w ra))) (C := "RayField$Meeting") (T := F_Meeting) (N := 5) hx hb hts in_Meeting hown hK hPm 0 rfl rfl 2 (by decide) (va_Nw.use rfl (hE.1.1 _ w_132 rfl)) (fun _ h9 => h9) rfl d_RF_times_28 ?_
      refine lv_lmul hx hb d_RF_times_31 ?_
      refine vp_callSl (va_Run.run (rf_runV (As := [.long (nn.toInt64 * (m_abs (m_p w ra)))]) (rest := []) S0 ml_RF_85 (c_Meeting_roundedDown l D (x_t cW cM) q_4 (nI (g k)) (m_fr w ra) (m_abs (m_p w ra)) (m_abs (m_a w ra)) (m_abs (m_q w ra)) (nn.toInt64 * (m_abs (m_p w ra)))) hE (va_recv hK hPm (ci := 2) (q0 := 0) rfl rfl) hPm ⟨rfl, rfl, Nat.le_of_ble_eq_true rfl, Nat.le_of_ble_eq_true rfl⟩ rfl hl.1 rfl (Nat.le_of_ble_eq_true rfl) d_RF_times_32 ⟨Nat.zero_le _, Nat.zero_le _⟩)) (fun r_8 h_9 => ?_)
      subst h_9
      exact W.lret (v := m_rd (nn.toInt64 * (m_abs (m_p w ra))) (m_abs (m_q w ra))) hx hb hr (fun t ht hW => ⟨_, rfl, (Or.inl ⟨k, w, hk, ek, b2, (h_6.t c_7), rfl⟩), ht⟩) (fun _ h => absurd h List.not_mem_nil) d_RF_times_35
    · refine lv_ldc2 (v := (-1)) hx hb hown (hts _ w_234) d_RF_times_20 ?_
      exact W.lret (v := (-1)) hx hb hr (fun t ht hW => ⟨_, rfl, (Or.inr ⟨Or.inr (h_6.f c_7), rfl⟩), ht⟩) (fun _ h => absurd h List.not_mem_nil) d_RF_times_23
set_option maxHeartbeats 4000000 in
set_option maxRecDepth 100000 in
theorem c_RF_along (l : Launch) (D : va_G) (x wa ma : Nat) (wc mc : Int32) (ry : Option Nat) (cW cM : ClassId) (wf mf : Nat → Option Nat) (L : List Nat) (f : Nat → va_E) (wl : Nat → Option Q4) (ra : Q4) (n : Nat) (g : Nat → Nat) (hn : n ≤ 64) (hmc : mc = nI n) (hM : rf_meets L f mf wl ra n g) (i : Int32) : Met l y_RF_along (.code y_RF_along b_RF_along 3 (some (.int)) :: BIG) { frames := 2, cells := 0, slots := 0, locals := 80 } (rf_Pc D (x_t cW cM) [.ref x, .int i] (fun h => va_P D vwCl (x_3 x wa ma wc mc ry cW cM wf mf ++ va_pl L f) h)) (vp_Si (fun r => (∃ k w, k < n ∧ i = nI k ∧ wl (g k) = some w ∧ r = (m_rd (1024 * m_abs (m_a w ra)) (m_abs (m_q w ra))).toInt32) ∨ ((∀ k, k < n → ¬ i = nI k) ∧ r = -1))) 0 0 (fun _ => False) := by
  refine Met.ofW (cc := b_RF_along) (maxL := 3) (ret := (some (.int))) (by decide) rfl ?_
  intro p e s m args below meth c s₁ B hml hv
  obtain ⟨rfl, hE, hP⟩ := hv
  have hx := B.exec
  have hb := B.bytes
  have hr := B.returns
  have hts : ∀ w ∈ BIG, w.before [.ref x, .int i].toArray s = true := fun w h => atoms_spec (ws := .code y_RF_along b_RF_along 3 (some (.int)) :: BIG) B.pre w (List.mem_cons_of_mem _ h)
  have hown : s.vm.findClass "RayField" = some m.cls := findClass_of_methodNamed B.named
  have hlocks := B.notSynchronized
  have hK := hE.2
  have S0 : CallFix p m c b_RF_along 3 s [.ref x, .int i].toArray BIG "RayField" := ⟨hx, hb, hml, hown, hts⟩
  have hl := lv_entry ([.ref x, .int i]) (n := 3) (Nat.le_of_ble_eq_true rfl)
  rw [lg_entry_eq]
  generalize (lg_sl ([.ref x, .int i]) ++ List.replicate (3 - (lg_sl ([.ref x, .int i])).length) Slot.unset).toArray = ls at hl ⊢
  have hl : lv_has ls 3 [(0, .ref x), (1, .int i)] := hl
  have hP : va_P D vwCl (x_3 x wa ma wc mc ry cW cM wf mf ++ va_pl L f) s.heap := hP
  refine lv_aload_n hx hb d_RF_along_0 rfl (lv_at hl 0 rfl) ?_
  refine lv_iload_n hx hb d_RF_along_1 rfl (lv_at hl 1 rfl) ?_
  refine va_csq (va_Run.run (rf_runV (As := [.int i]) (rest := []) S0 ml_RF_64 (c_RF_meetingAt l D x wa ma wc mc ry cW cM wf mf L f n hn hmc i) hE (va_recv hK hP (ci := 3) (q0 := 0) rfl rfl) hP ⟨rfl, rfl, Nat.le_of_ble_eq_true rfl, Nat.le_of_ble_eq_true rfl⟩ rfl hl.1 rfl (Nat.le_of_ble_eq_true rfl) d_RF_along_2 ⟨Nat.zero_le _, Nat.zero_le _⟩)) (fun r_1 h_2 => ?_)
  refine rf_topq (fun e_3 => ?_) (fun q_4 e_3 => ?_)
  · have h0 := rf_mt_none hM h_2 e_3
    refine lv_astore_nN (lv' := [(2, .null), (0, .ref x), (1, .int i)]) hx hb d_RF_along_5 rfl hl (by decide) rfl (fun ls hl => ?_)
    refine lv_aload_nN hx hb d_RF_along_6 rfl (lv_at hl 0 rfl) ?_
    refine lv_ifnonnullN hx hb d_RF_along_7 ?_
    refine lv_iconst (v := -1) hx hb d_RF_along_10 (by decide) ?_
    refine lv_goto (tgt := 27) hx hb d_RF_along_11 (by decide) ?_
    exact W.iret (v := (-1)) hx hb hr (fun t ht hW => ⟨_, rfl, (Or.inr ⟨h0, rfl⟩), ht⟩) (fun _ h => absurd h List.not_mem_nil) d_RF_along_27
  · obtain ⟨k, w, hk, ek, b1, b2, b3⟩ := rf_mt_some hM h_2 e_3
    have hPm := rf_pl hP b1 b3
    refine lv_astore_n (lv' := [(2, .ref q_4), (0, .ref x), (1, .int i)]) hx hb d_RF_along_5 rfl hl (by decide) rfl (fun ls hl => ?_)
    refine lv_aload_n hx hb d_RF_along_6 rfl (lv_at hl 0 rfl) ?_
    refine lv_ifnonnull (tgt := 14) hx hb d_RF_along_7 (by decide) ?_
    refine lv_aload_n hx hb d_RF_along_14 rfl (lv_at hl 0 rfl) ?_
    refine lv_ldc2 (v := 1024) hx hb hown (hts _ w_247) d_RF_along_15 ?_
    refine lv_aload_n hx hb d_RF_along_18 rfl (lv_at hl 0 rfl) ?_
    refine va_getN (D := D) (ci := 2) (v := .long (m_abs (m_a w ra))) (C := "RayField$Meeting") (T := F_Meeting) (N := 5) hx hb hts in_Meeting hown hK hPm 0 rfl rfl 3 (by decide) (va_Nw.use rfl (hE.1.1 _ w_134 rfl)) (fun _ h9 => h9) rfl d_RF_along_19 ?_
    refine lv_lmul hx hb d_RF_along_22 ?_
    refine vp_callSl (va_Run.run (rf_runV (As := [.long (1024 * (m_abs (m_a w ra)))]) (rest := []) S0 ml_RF_85 (c_Meeting_roundedDown l D (x_t cW cM) q_4 (nI (g k)) (m_fr w ra) (m_abs (m_p w ra)) (m_abs (m_a w ra)) (m_abs (m_q w ra)) (1024 * (m_abs (m_a w ra)))) hE (va_recv hK hPm (ci := 2) (q0 := 0) rfl rfl) hPm ⟨rfl, rfl, Nat.le_of_ble_eq_true rfl, Nat.le_of_ble_eq_true rfl⟩ rfl hl.1 rfl (Nat.le_of_ble_eq_true rfl) d_RF_along_23 ⟨Nat.zero_le _, Nat.zero_le _⟩)) (fun r_5 h_6 => ?_)
    subst h_6
    refine lv_l2i hx hb d_RF_along_26 rfl ?_
    exact W.iret (v := (m_rd (1024 * (m_abs (m_a w ra))) (m_abs (m_q w ra))).toInt32) hx hb hr (fun t ht hW => ⟨_, rfl, (Or.inl ⟨k, w, hk, ek, b2, rfl⟩), ht⟩) (fun _ h => absurd h List.not_mem_nil) d_RF_along_27
set_option maxHeartbeats 4000000 in
set_option maxRecDepth 100000 in
theorem c_RF_of (l : Launch) (D : va_G) (x wa ma : Nat) (wc mc : Int32) (ry : Option Nat) (cW cM : ClassId) (wf mf : Nat → Option Nat) (L : List Nat) (f : Nat → va_E) (wl : Nat → Option Q4) (hw : rf_walls L f wf wl) (i what : Int32) : Met l y_RF_of (.code y_RF_of b_RF_of 4 (some (.int)) :: BIG) { frames := 3, cells := 0, slots := 0, locals := 120 } (rf_Pc D (x_t cW cM) [.ref x, .int i, .int what] (fun h => va_P D vwCl (x_3 x wa ma wc mc ry cW cM wf mf ++ va_pl L f) h)) (vp_Si (fun r => (∃ k, k < 64 ∧ i = nI k ∧ r = m_of (wl k) what) ∨ ((∀ k, k < 64 → ¬ i = nI k) ∧ r = 100000))) 0 0 (fun _ => False) := by
  refine Met.ofW (cc := b_RF_of) (maxL := 4) (ret := (some (.int))) (by decide) rfl ?_
  intro p e s m args below meth c s₁ B hml hv
  obtain ⟨rfl, hE, hP⟩ := hv
  have hx := B.exec
  have hb := B.bytes
  have hr := B.returns
  have hts : ∀ w ∈ BIG, w.before [.ref x, .int i, .int what].toArray s = true := fun w h => atoms_spec (ws := .code y_RF_of b_RF_of 4 (some (.int)) :: BIG) B.pre w (List.mem_cons_of_mem _ h)
  have hown : s.vm.findClass "RayField" = some m.cls := findClass_of_methodNamed B.named
  have hlocks := B.notSynchronized
  have hK := hE.2
  have S0 : CallFix p m c b_RF_of 4 s [.ref x, .int i, .int what].toArray BIG "RayField" := ⟨hx, hb, hml, hown, hts⟩
  have hl := lv_entry ([.ref x, .int i, .int what]) (n := 4) (Nat.le_of_ble_eq_true rfl)
  rw [lg_entry_eq]
  generalize (lg_sl ([.ref x, .int i, .int what]) ++ List.replicate (4 - (lg_sl ([.ref x, .int i, .int what])).length) Slot.unset).toArray = ls at hl ⊢
  have hl : lv_has ls 4 [(0, .ref x), (1, .int i), (2, .int what)] := hl
  have hP : va_P D vwCl (x_3 x wa ma wc mc ry cW cM wf mf ++ va_pl L f) s.heap := hP
  refine lv_aload_n hx hb d_RF_of_0 rfl (lv_at hl 0 rfl) ?_
  refine lv_iload_n hx hb d_RF_of_1 rfl (lv_at hl 1 rfl) ?_
  refine va_csq (va_Run.run (rf_runV (As := [.int i]) (rest := []) S0 ml_RF_47 (c_RF_wallNumbered l D x wa ma wc mc ry cW cM wf mf L f i) hE (va_recv hK hP (ci := 3) (q0 := 0) rfl rfl) hP ⟨rfl, rfl, Nat.le_of_ble_eq_true rfl, Nat.le_of_ble_eq_true rfl⟩ rfl hl.1 rfl (Nat.le_of_ble_eq_true rfl) d_RF_of_2 ⟨Nat.zero_le _, Nat.zero_le _⟩)) (fun r_1 h_2 => ?_)
  refine rf_topq (fun e_3 => ?_) (fun q_4 e_3 => ?_)
  · have h0 := rf_wn_none hw h_2 e_3
    refine lv_astore_nN (lv' := [(3, .null), (0, .ref x), (1, .int i), (2, .int what)]) hx hb d_RF_of_5 rfl hl (by decide) rfl (fun ls hl => ?_)
    refine lv_aload_nN hx hb d_RF_of_6 rfl (lv_at hl 0 rfl) ?_
    refine lv_ifnonnullN hx hb d_RF_of_7 ?_
    refine lv_ldc (v := 100000) hx hb hown (hts _ w_269) d_RF_of_10 ?_
    exact W.iret (v := 100000) hx hb hr (fun t ht hW => ⟨_, rfl, (h0.elim (fun ⟨k, hk, ek, h1⟩ => Or.inl ⟨k, hk, ek, by rw [h1]; rfl⟩) (fun h1 => Or.inr ⟨h1, rfl⟩)), ht⟩) (fun _ h => absurd h List.not_mem_nil) d_RF_of_12
  · obtain ⟨k, w, hk, ek, b0, b1, b2, b3⟩ := rf_wn_some hw h_2 e_3
    have hPw := rf_pl hP b2 b3
    refine lv_astore_n (lv' := [(3, .ref q_4), (0, .ref x), (1, .int i), (2, .int what)]) hx hb d_RF_of_5 rfl hl (by decide) rfl (fun ls hl => ?_)
    refine lv_aload_n hx hb d_RF_of_6 rfl (lv_at hl 0 rfl) ?_
    refine lv_ifnonnull (tgt := 13) hx hb d_RF_of_7 (by decide) ?_
    refine lv_iload_n hx hb d_RF_of_13 rfl (lv_at hl 3 rfl) ?_
    by_cases t0 : what = 0
    · subst t0
      refine lv_tableIn (off := 30) (tgt := 44) hx hb d_RF_of_14 (by decide) (by decide) (by decide) (by decide) ?_
      refine lv_aload_n hx hb d_RF_of_44 rfl (lv_at hl 0 rfl) ?_
      refine va_getN (D := D) (ci := 0) (v := .int w.1) (C := "RayField$Wall") (T := F_Wall) (N := 4) hx hb hts in_Wall hown hK hPw 0 rfl rfl 0 (by decide) (va_Nw.use rfl (hE.1.1 _ w_59 rfl)) (fun _ h9 => h9) rfl d_RF_of_45 ?_
      exact W.iret (v := w.1) hx hb hr (fun t ht hW => ⟨_, rfl, (Or.inl ⟨k, hk, ek, by rw [b1]; rfl⟩), ht⟩) (fun _ h => absurd h List.not_mem_nil) d_RF_of_48
    by_cases t1 : what = 1
    · subst t1
      refine lv_tableIn (off := 35) (tgt := 49) hx hb d_RF_of_14 (by decide) (by decide) (by decide) (by decide) ?_
      refine lv_aload_n hx hb d_RF_of_49 rfl (lv_at hl 0 rfl) ?_
      refine va_getN (D := D) (ci := 0) (v := .int w.2.1) (C := "RayField$Wall") (T := F_Wall) (N := 4) hx hb hts in_Wall hown hK hPw 0 rfl rfl 1 (by decide) (va_Nw.use rfl (hE.1.1 _ w_62 rfl)) (fun _ h9 => h9) rfl d_RF_of_50 ?_
      exact W.iret (v := w.2.1) hx hb hr (fun t ht hW => ⟨_, rfl, (Or.inl ⟨k, hk, ek, by rw [b1]; rfl⟩), ht⟩) (fun _ h => absurd h List.not_mem_nil) d_RF_of_53
    by_cases t2 : what = 2
    · subst t2
      refine lv_tableIn (off := 40) (tgt := 54) hx hb d_RF_of_14 (by decide) (by decide) (by decide) (by decide) ?_
      refine lv_aload_n hx hb d_RF_of_54 rfl (lv_at hl 0 rfl) ?_
      refine va_getN (D := D) (ci := 0) (v := .int w.2.2.1) (C := "RayField$Wall") (T := F_Wall) (N := 4) hx hb hts in_Wall hown hK hPw 0 rfl rfl 2 (by decide) (va_Nw.use rfl (hE.1.1 _ w_65 rfl)) (fun _ h9 => h9) rfl d_RF_of_55 ?_
      exact W.iret (v := w.2.2.1) hx hb hr (fun t ht hW => ⟨_, rfl, (Or.inl ⟨k, hk, ek, by rw [b1]; rfl⟩), ht⟩) (fun _ h => absurd h List.not_mem_nil) d_RF_of_58
    by_cases t3 : what = 3
    · subst t3
      refine lv_tableIn (off := 45) (tgt := 59) hx hb d_RF_of_14 (by decide) (by decide) (by decide) (by decide) ?_
      refine lv_aload_n hx hb d_RF_of_59 rfl (lv_at hl 0 rfl) ?_
      refine va_getN (D := D) (ci := 0) (v := .int w.2.2.2) (C := "RayField$Wall") (T := F_Wall) (N := 4) hx hb hts in_Wall hown hK hPw 0 rfl rfl 3 (by decide) (va_Nw.use rfl (hE.1.1 _ w_68 rfl)) (fun _ h9 => h9) rfl d_RF_of_60 ?_
      exact W.iret (v := w.2.2.2) hx hb hr (fun t ht hW => ⟨_, rfl, (Or.inl ⟨k, hk, ek, by rw [b1]; rfl⟩), ht⟩) (fun _ h => absurd h List.not_mem_nil) d_RF_of_63
    refine lv_tableOut (tgt := 64) hx hb d_RF_of_14 (rf_sw4 t0 t1 t2 t3) (by decide) ?_
    refine lv_ldc (v := 100000) hx hb hown (hts _ w_269) d_RF_of_64 ?_
    exact W.iret (v := 100000) hx hb hr (fun t ht hW => ⟨_, rfl, (Or.inl ⟨k, hk, ek, by rw [b1]; unfold m_of; simp only [if_neg t0, if_neg t1, if_neg t2, if_neg t3]⟩), ht⟩) (fun _ h => absurd h List.not_mem_nil) d_RF_of_66
set_option maxHeartbeats 4000000 in
set_option maxRecDepth 100000 in
theorem c_RF_look (l : Launch) (D : va_G) (x wa ma : Nat) (wc mc : Int32) (ry : Option Nat) (cW cM : ClassId) (wf mf : Nat → Option Nat) (L : List Nat) (f : Nat → va_E) (wh : Int32) : Met l y_RF_look (.code y_RF_look b_RF_look 2 (some (.int)) :: BIG) { frames := 1, cells := 0, slots := 0, locals := 40 } (rf_Pc D (x_t cW cM) [.ref x, .int wh] (fun h => va_P D vwCl (x_3 x wa ma wc mc ry cW cM wf mf ++ va_pl L f) h)) (vp_Si (fun r => (wh = 0 ∧ r = wc) ∨ (wh = 1 ∧ rf_First (fun k => wf k = none) r) ∨ (wh = 2 ∧ rf_tf r (¬ ry = none)) ∨ (¬ wh = 0 ∧ ¬ wh = 1 ∧ ¬ wh = 2 ∧ r = -1))) 0 0 (fun _ => False) := by
  refine Met.ofW (cc := b_RF_look) (maxL := 2) (ret := (some (.int))) (by decide) rfl ?_
  intro p e s m args below meth c s₁ B hml hv
  obtain ⟨rfl, hE, hP⟩ := hv
  have hx := B.exec
  have hb := B.bytes
  have hr := B.returns
  have hts : ∀ w ∈ BIG, w.before [.ref x, .int wh].toArray s = true := fun w h => atoms_spec (ws := .code y_RF_look b_RF_look 2 (some (.int)) :: BIG) B.pre w (List.mem_cons_of_mem _ h)
  have hown : s.vm.findClass "RayField" = some m.cls := findClass_of_methodNamed B.named
  have hlocks := B.notSynchronized
  have hK := hE.2
  have S0 : CallFix p m c b_RF_look 2 s [.ref x, .int wh].toArray BIG "RayField" := ⟨hx, hb, hml, hown, hts⟩
  have hl := lv_entry ([.ref x, .int wh]) (n := 2) (Nat.le_of_ble_eq_true rfl)
  rw [lg_entry_eq]
  generalize (lg_sl ([.ref x, .int wh]) ++ List.replicate (2 - (lg_sl ([.ref x, .int wh])).length) Slot.unset).toArray = ls at hl ⊢
  have hl : lv_has ls 2 [(0, .ref x), (1, .int wh)] := hl
  have hP : va_P D vwCl (x_3 x wa ma wc mc ry cW cM wf mf ++ va_pl L f) s.heap := hP
  refine lv_iload_n hx hb d_RF_look_0 rfl (lv_at hl 1 rfl) ?_
  by_cases t0 : wh = 0
  · subst t0
    refine lv_tableIn (off := 27) (tgt := 28) hx hb d_RF_look_1 (by decide) (by decide) (by decide) (by decide) ?_
    refine lv_aload_n hx hb d_RF_look_28 rfl (lv_at hl 0 rfl) ?_
    refine va_get (D := D) (ci := 3) (v := .int wc) (C := "RayField") (T := F_RF) (N := 5) hx hb hts in_RF hown hK hP 0 rfl rfl 1 (by decide) (hts _ w_20) (fun _ h9 => h9) rfl d_RF_look_29 ?_
    exact W.iret (v := wc) hx hb hr (fun t ht hW => ⟨_, rfl, (Or.inl ⟨rfl, rfl⟩), ht⟩) (fun _ h => absurd h List.not_mem_nil) d_RF_look_32
  by_cases t1 : wh = 1
  · subst t1
    refine lv_tableIn (off := 32) (tgt := 33) hx hb d_RF_look_1 (by decide) (by decide) (by decide) (by decide) ?_
    refine lv_aload_n hx hb d_RF_look_33 rfl (lv_at hl 0 rfl) ?_
    refine vp_callSi (va_Run.run (rf_runV (As := []) (rest := []) S0 ml_RF_25 (c_RF_least l D x wa ma wc mc ry cW cM wf mf L f) hE (va_recv hK hP (ci := 3) (q0 := 0) rfl rfl) hP ⟨rfl, rfl, Nat.le_of_ble_eq_true rfl, Nat.le_of_ble_eq_true rfl⟩ rfl hl.1 rfl (Nat.le_of_ble_eq_true rfl) d_RF_look_34 ⟨Nat.zero_le _, Nat.zero_le _⟩)) (fun r_1 h_2 => ?_)
    exact W.iret (v := r_1) hx hb hr (fun t ht hW => ⟨_, rfl, (Or.inr (Or.inl ⟨rfl, h_2⟩)), ht⟩) (fun _ h => absurd h List.not_mem_nil) d_RF_look_37
  by_cases t2 : wh = 2
  · subst t2
    refine lv_tableIn (off := 37) (tgt := 38) hx hb d_RF_look_1 (by decide) (by decide) (by decide) (by decide) ?_
    refine lv_aload_n hx hb d_RF_look_38 rfl (lv_at hl 0 rfl) ?_
    refine va_get (D := D) (ci := 3) (v := va_rf ry) (C := "RayField") (T := F_RF) (N := 5) hx hb hts in_RF hown hK hP 0 rfl rfl 2 (by decide) (hts _ w_21) (fun _ h9 => h9) rfl d_RF_look_39 ?_
    refine rf_topq (fun e_3 => ?_) (fun q_4 e_3 => ?_)
    · refine lv_ifnonnullN hx hb d_RF_look_42 ?_
      refine lv_iconst (v := 0) hx hb d_RF_look_45 (by decide) ?_
      refine lv_goto (tgt := 50) hx hb d_RF_look_46 (by decide) ?_
      exact W.iret (v := 0) hx hb hr (fun t ht hW => ⟨_, rfl, (Or.inr (Or.inr (Or.inl ⟨rfl, rf_F (fun z => z e_3)⟩))), ht⟩) (fun _ h => absurd h List.not_mem_nil) d_RF_look_50
    · refine lv_ifnonnull (tgt := 49) hx hb d_RF_look_42 (by decide) ?_
      refine lv_iconst (v := 1) hx hb d_RF_look_49 (by decide) ?_
      exact W.iret (v := 1) hx hb hr (fun t ht hW => ⟨_, rfl, (Or.inr (Or.inr (Or.inl ⟨rfl, rf_T (fun z => by rw [e_3] at z; cases z)⟩))), ht⟩) (fun _ h => absurd h List.not_mem_nil) d_RF_look_50
  refine lv_tableOut (tgt := 51) hx hb d_RF_look_1 (rf_sw3 t0 t1 t2) (by decide) ?_
  refine lv_iconst (v := -1) hx hb d_RF_look_51 (by decide) ?_
  exact W.iret (v := (-1)) hx hb hr (fun t ht hW => ⟨_, rfl, (Or.inr (Or.inr (Or.inr ⟨t0, t1, t2, rfl⟩))), ht⟩) (fun _ h => absurd h List.not_mem_nil) d_RF_look_52
end
section
set_option maxHeartbeats 4000000 in
set_option maxRecDepth 100000 in
theorem c_Wall_init (l : Launch) (D : va_G) (tys : List (ClassId × FieldType)) (q : Nat) (a1 a2 b1 b2 : Int32) (sz : Nat) : Met l y_Wall_init (.code y_Wall_init b_Wall_init 5 none :: BIG) { frames := 1, cells := 0, slots := 0, locals := 40 } (rf_Pc D tys [.ref q, .int a1, .int a2, .int b1, .int b2] (fun h => h.size = sz ∧ va_P D vwCl [(q, .inr (0, [.int 0, .int 0, .int 0, .int 0]))] h ∧ va_D (fun _ => True) [(q, .inr (0, [.int 0, .int 0, .int 0, .int 0]))])) (va_Qv (S := Unit) (fun _ => True) (fun u t => va_P D vwCl ([(q, e_W (a1, a2, b1, b2))]) t.heap ∧ va_D (va_A [(q, .inr (0, [.int 0, .int 0, .int 0, .int 0]))] sz) ([(q, e_W (a1, a2, b1, b2))])) (va_A [(q, .inr (0, [.int 0, .int 0, .int 0, .int 0]))] sz)) 0 0 (va_A [(q, .inr (0, [.int 0, .int 0, .int 0, .int 0]))] sz) := by
  refine Met.ofW (cc := b_Wall_init) (maxL := 5) (ret := none) (by decide) rfl ?_
  intro p e s m args below meth c s₁ B hml hv
  obtain ⟨rfl, hE, hP⟩ := hv
  have hx := B.exec
  have hb := B.bytes
  have hr := B.returns
  have hts : ∀ w ∈ BIG, w.before [.ref q, .int a1, .int a2, .int b1, .int b2].toArray s = true := fun w h => atoms_spec (ws := .code y_Wall_init b_Wall_init 5 none :: BIG) B.pre w (List.mem_cons_of_mem _ h)
  have hown : s.vm.findClass "RayField$Wall" = some m.cls := findClass_of_methodNamed B.named
  have hlocks := B.notSynchronized
  have hK := hE.2
  have S0 : CallFix p m c b_Wall_init 5 s [.ref q, .int a1, .int a2, .int b1, .int b2].toArray BIG "RayField$Wall" := ⟨hx, hb, hml, hown, hts⟩
  have hl := lv_entry ([.ref q, .int a1, .int a2, .int b1, .int b2]) (n := 5) (Nat.le_of_ble_eq_true rfl)
  rw [lg_entry_eq]
  generalize (lg_sl ([.ref q, .int a1, .int a2, .int b1, .int b2]) ++ List.replicate (5 - (lg_sl ([.ref q, .int a1, .int a2, .int b1, .int b2])).length) Slot.unset).toArray = ls at hl ⊢
  have hl : lv_has ls 5 [(0, .ref q), (1, .int a1), (2, .int a2), (3, .int b1), (4, .int b2)] := hl
  obtain ⟨hsz, hP, hD0⟩ := hP
  have hin : meth.name = "<init>" := (name_of_methodNamed B.named B.method).1
  subst hsz
  have hD := hD0.self (sz := s.heap.size)
  generalize hAe : va_A [(q, .inr (0, [.int 0, .int 0, .int 0, .int 0]))] s.heap.size = A at hD ⊢
  have hA : ∀ q : Nat, s.heap.size ≤ q → A q := fun q h => by rw [← hAe]; exact Or.inr h
  obtain ⟨H, hH⟩ : ∃ H : Heap, H = s.heap := ⟨_, rfl⟩
  refine rf_heap hH ?_
  have hS : va_S A s.heap H [] := by rw [hH]; exact va_S.rf
  have hP : va_P D vwCl [(q, .inr (0, [.int 0, .int 0, .int 0, .int 0]))] H := by rw [hH]; exact hP
  refine lv_aload_n hx hb d_Wall_init_0 rfl (lv_at hl 0 rfl) ?_
  refine W.objInit hx hb hown (hts _ w_56) (hts _ w_13) (hts _ w_14) rfl (by rw [hml]; exact hl.1) rfl d_Wall_init_1 (Nat.le_of_ble_eq_true rfl) (Nat.le_of_ble_eq_true rfl) ?_
  refine W.eq (g2 := F0 m 4 ls []) rfl ?_
  refine lv_aload_n hx hb d_Wall_init_4 rfl (lv_at hl 0 rfl) ?_
  refine lv_iload_n hx hb d_Wall_init_5 rfl (lv_at hl 1 rfl) ?_
  refine va_put (D := D) (ci := 0) (v := .int a1) (ty := .int) (C := "RayField$Wall") (T := F_Wall) (N := 4) hx hb hts in_Wall t_Wall tok_Wall nn_Wall hown hK hP hD hS 0 rfl rfl 0 (by decide) (hts _ w_57) (fun _ h9 => h9) rfl (by decide +kernel) rfl rfl (Nat.le_of_ble_eq_true rfl) d_Wall_init_6 (fun H locs hP hD hS => ?_)
  have hP : va_P D vwCl [(q, .inr (0, [.int a1, .int 0, .int 0, .int 0]))] H := hP
  have hD : va_D A [(q, .inr (0, [.int a1, .int 0, .int 0, .int 0]))] := hD
  refine lv_aload_n hx hb d_Wall_init_9 rfl (lv_at hl 0 rfl) ?_
  refine lv_iload_n hx hb d_Wall_init_10 rfl (lv_at hl 2 rfl) ?_
  refine va_put (D := D) (ci := 0) (v := .int a2) (ty := .int) (C := "RayField$Wall") (T := F_Wall) (N := 4) hx hb hts in_Wall t_Wall tok_Wall nn_Wall hown hK hP hD hS 0 rfl rfl 1 (by decide) (hts _ w_60) (fun _ h9 => h9) rfl (by decide +kernel) rfl rfl (Nat.le_of_ble_eq_true rfl) d_Wall_init_11 (fun H locs hP hD hS => ?_)
  have hP : va_P D vwCl [(q, .inr (0, [.int a1, .int a2, .int 0, .int 0]))] H := hP
  have hD : va_D A [(q, .inr (0, [.int a1, .int a2, .int 0, .int 0]))] := hD
  refine lv_aload_n hx hb d_Wall_init_14 rfl (lv_at hl 0 rfl) ?_
  refine lv_iload_n hx hb d_Wall_init_15 rfl (lv_at hl 3 rfl) ?_
  refine va_put (D := D) (ci := 0) (v := .int b1) (ty := .int) (C := "RayField$Wall") (T := F_Wall) (N := 4) hx hb hts in_Wall t_Wall tok_Wall nn_Wall hown hK hP hD hS 0 rfl rfl 2 (by decide) (hts _ w_63) (fun _ h9 => h9) rfl (by decide +kernel) rfl rfl (Nat.le_of_ble_eq_true rfl) d_Wall_init_16 (fun H locs hP hD hS => ?_)
  have hP : va_P D vwCl [(q, .inr (0, [.int a1, .int a2, .int b1, .int 0]))] H := hP
  have hD : va_D A [(q, .inr (0, [.int a1, .int a2, .int b1, .int 0]))] := hD
  refine lv_aload_n hx hb d_Wall_init_19 rfl (lv_at hl 0 rfl) ?_
  refine lv_iload hx hb d_Wall_init_20 (lv_at hl 4 rfl) ?_
  refine va_put (D := D) (ci := 0) (v := .int b2) (ty := .int) (C := "RayField$Wall") (T := F_Wall) (N := 4) hx hb hts in_Wall t_Wall tok_Wall nn_Wall hown hK hP hD hS 0 rfl rfl 3 (by decide) (hts _ w_66) (fun _ h9 => h9) rfl (by decide +kernel) rfl rfl (Nat.le_of_ble_eq_true rfl) d_Wall_init_22 (fun H locs hP hD hS => ?_)
  have hP : va_P D vwCl [(q, .inr (0, [.int a1, .int a2, .int b1, .int b2]))] H := hP
  have hD : va_D A [(q, .inr (0, [.int a1, .int a2, .int b1, .int b2]))] := hD
  exact W.vret hx hb hr (fun t ht hW => ⟨⟨(), rfl, trivial, by rw [ht]; exact hP, hD⟩, hS.F ht⟩) hS.2.2 d_Wall_init_25
set_option maxHeartbeats 4000000 in
set_option maxRecDepth 100000 in
theorem c_Ray_init (l : Launch) (D : va_G) (tys : List (ClassId × FieldType)) (q : Nat) (a1 a2 b1 b2 : Int32) (sz : Nat) : Met l y_Ray_init (.code y_Ray_init b_Ray_init 5 none :: BIG) { frames := 1, cells := 0, slots := 0, locals := 40 } (rf_Pc D tys [.ref q, .int a1, .int a2, .int b1, .int b2] (fun h => h.size = sz ∧ va_P D vwCl [(q, .inr (1, [.int 0, .int 0, .int 0, .int 0]))] h ∧ va_D (fun _ => True) [(q, .inr (1, [.int 0, .int 0, .int 0, .int 0]))])) (va_Qv (S := Unit) (fun _ => True) (fun u t => va_P D vwCl ([(q, e_R (a1, a2, b1, b2))]) t.heap ∧ va_D (va_A [(q, .inr (1, [.int 0, .int 0, .int 0, .int 0]))] sz) ([(q, e_R (a1, a2, b1, b2))])) (va_A [(q, .inr (1, [.int 0, .int 0, .int 0, .int 0]))] sz)) 0 0 (va_A [(q, .inr (1, [.int 0, .int 0, .int 0, .int 0]))] sz) := by
  refine Met.ofW (cc := b_Ray_init) (maxL := 5) (ret := none) (by decide) rfl ?_
  intro p e s m args below meth c s₁ B hml hv
  obtain ⟨rfl, hE, hP⟩ := hv
  have hx := B.exec
  have hb := B.bytes
  have hr := B.returns
  have hts : ∀ w ∈ BIG, w.before [.ref q, .int a1, .int a2, .int b1, .int b2].toArray s = true := fun w h => atoms_spec (ws := .code y_Ray_init b_Ray_init 5 none :: BIG) B.pre w (List.mem_cons_of_mem _ h)
  have hown : s.vm.findClass "RayField$Ray" = some m.cls := findClass_of_methodNamed B.named
  have hlocks := B.notSynchronized
  have hK := hE.2
  have S0 : CallFix p m c b_Ray_init 5 s [.ref q, .int a1, .int a2, .int b1, .int b2].toArray BIG "RayField$Ray" := ⟨hx, hb, hml, hown, hts⟩
  have hl := lv_entry ([.ref q, .int a1, .int a2, .int b1, .int b2]) (n := 5) (Nat.le_of_ble_eq_true rfl)
  rw [lg_entry_eq]
  generalize (lg_sl ([.ref q, .int a1, .int a2, .int b1, .int b2]) ++ List.replicate (5 - (lg_sl ([.ref q, .int a1, .int a2, .int b1, .int b2])).length) Slot.unset).toArray = ls at hl ⊢
  have hl : lv_has ls 5 [(0, .ref q), (1, .int a1), (2, .int a2), (3, .int b1), (4, .int b2)] := hl
  obtain ⟨hsz, hP, hD0⟩ := hP
  have hin : meth.name = "<init>" := (name_of_methodNamed B.named B.method).1
  subst hsz
  have hD := hD0.self (sz := s.heap.size)
  generalize hAe : va_A [(q, .inr (1, [.int 0, .int 0, .int 0, .int 0]))] s.heap.size = A at hD ⊢
  have hA : ∀ q : Nat, s.heap.size ≤ q → A q := fun q h => by rw [← hAe]; exact Or.inr h
  obtain ⟨H, hH⟩ : ∃ H : Heap, H = s.heap := ⟨_, rfl⟩
  refine rf_heap hH ?_
  have hS : va_S A s.heap H [] := by rw [hH]; exact va_S.rf
  have hP : va_P D vwCl [(q, .inr (1, [.int 0, .int 0, .int 0, .int 0]))] H := by rw [hH]; exact hP
  refine lv_aload_n hx hb d_Ray_init_0 rfl (lv_at hl 0 rfl) ?_
  refine W.objInit hx hb hown (hts _ w_197) (hts _ w_13) (hts _ w_14) rfl (by rw [hml]; exact hl.1) rfl d_Ray_init_1 (Nat.le_of_ble_eq_true rfl) (Nat.le_of_ble_eq_true rfl) ?_
  refine W.eq (g2 := F0 m 4 ls []) rfl ?_
  refine lv_aload_n hx hb d_Ray_init_4 rfl (lv_at hl 0 rfl) ?_
  refine lv_iload_n hx hb d_Ray_init_5 rfl (lv_at hl 1 rfl) ?_
  refine va_putF (D := D) (ci := 1) (v := .int a1) (ty := .int) (C := "RayField$Ray") (T := F_Ray) (N := 4) hx hb hts in_Ray t_Ray tok_Ray nn_Ray hown hK hP hD hS 0 rfl rfl 0 (by decide) (hts _ w_198) (fun _ h9 => h9) rfl hin rfl (by decide +kernel) rfl rfl (Nat.le_of_ble_eq_true rfl) d_Ray_init_6 (fun H locs hP hD hS => ?_)
  have hP : va_P D vwCl [(q, .inr (1, [.int a1, .int 0, .int 0, .int 0]))] H := hP
  have hD : va_D A [(q, .inr (1, [.int a1, .int 0, .int 0, .int 0]))] := hD
  refine lv_aload_n hx hb d_Ray_init_9 rfl (lv_at hl 0 rfl) ?_
  refine lv_iload_n hx hb d_Ray_init_10 rfl (lv_at hl 2 rfl) ?_
  refine va_putF (D := D) (ci := 1) (v := .int a2) (ty := .int) (C := "RayField$Ray") (T := F_Ray) (N := 4) hx hb hts in_Ray t_Ray tok_Ray nn_Ray hown hK hP hD hS 0 rfl rfl 1 (by decide) (hts _ w_200) (fun _ h9 => h9) rfl hin rfl (by decide +kernel) rfl rfl (Nat.le_of_ble_eq_true rfl) d_Ray_init_11 (fun H locs hP hD hS => ?_)
  have hP : va_P D vwCl [(q, .inr (1, [.int a1, .int a2, .int 0, .int 0]))] H := hP
  have hD : va_D A [(q, .inr (1, [.int a1, .int a2, .int 0, .int 0]))] := hD
  refine lv_aload_n hx hb d_Ray_init_14 rfl (lv_at hl 0 rfl) ?_
  refine lv_iload_n hx hb d_Ray_init_15 rfl (lv_at hl 3 rfl) ?_
  refine va_putF (D := D) (ci := 1) (v := .int b1) (ty := .int) (C := "RayField$Ray") (T := F_Ray) (N := 4) hx hb hts in_Ray t_Ray tok_Ray nn_Ray hown hK hP hD hS 0 rfl rfl 2 (by decide) (hts _ w_202) (fun _ h9 => h9) rfl hin rfl (by decide +kernel) rfl rfl (Nat.le_of_ble_eq_true rfl) d_Ray_init_16 (fun H locs hP hD hS => ?_)
  have hP : va_P D vwCl [(q, .inr (1, [.int a1, .int a2, .int b1, .int 0]))] H := hP
  have hD : va_D A [(q, .inr (1, [.int a1, .int a2, .int b1, .int 0]))] := hD
  refine lv_aload_n hx hb d_Ray_init_19 rfl (lv_at hl 0 rfl) ?_
  refine lv_iload hx hb d_Ray_init_20 (lv_at hl 4 rfl) ?_
  refine va_putF (D := D) (ci := 1) (v := .int b2) (ty := .int) (C := "RayField$Ray") (T := F_Ray) (N := 4) hx hb hts in_Ray t_Ray tok_Ray nn_Ray hown hK hP hD hS 0 rfl rfl 3 (by decide) (hts _ w_203) (fun _ h9 => h9) rfl hin rfl (by decide +kernel) rfl rfl (Nat.le_of_ble_eq_true rfl) d_Ray_init_22 (fun H locs hP hD hS => ?_)
  have hP : va_P D vwCl [(q, .inr (1, [.int a1, .int a2, .int b1, .int b2]))] H := hP
  have hD : va_D A [(q, .inr (1, [.int a1, .int a2, .int b1, .int b2]))] := hD
  exact W.vret hx hb hr (fun t ht hW => ⟨⟨(), rfl, trivial, by rw [ht]; exact hP, hD⟩, hS.F ht⟩) hS.2.2 d_Ray_init_25
set_option maxHeartbeats 4000000 in
set_option maxRecDepth 100000 in
theorem c_Meeting_init (l : Launch) (D : va_G) (tys : List (ClassId × FieldType)) (q : Nat) (sz : Nat) : Met l y_Meeting_init (.code y_Meeting_init b_Meeting_init 1 none :: BIG) { frames := 1, cells := 0, slots := 0, locals := 40 } (rf_Pc D tys [.ref q] (fun h => h.size = sz ∧ va_P D vwCl [(q, .inr (2, [.int 0, .int 0, .long 0, .long 0, .long 0]))] h ∧ va_D (fun _ => True) [(q, .inr (2, [.int 0, .int 0, .long 0, .long 0, .long 0]))])) (va_Qv (S := Unit) (fun _ => True) (fun u t => va_P D vwCl ([(q, e_M 0 0 0 0 0)]) t.heap ∧ va_D (va_A [(q, .inr (2, [.int 0, .int 0, .long 0, .long 0, .long 0]))] sz) ([(q, e_M 0 0 0 0 0)])) (va_A [(q, .inr (2, [.int 0, .int 0, .long 0, .long 0, .long 0]))] sz)) 0 0 (va_A [(q, .inr (2, [.int 0, .int 0, .long 0, .long 0, .long 0]))] sz) := by
  refine Met.ofW (cc := b_Meeting_init) (maxL := 1) (ret := none) (by decide) rfl ?_
  intro p e s m args below meth c s₁ B hml hv
  obtain ⟨rfl, hE, hP⟩ := hv
  have hx := B.exec
  have hb := B.bytes
  have hr := B.returns
  have hts : ∀ w ∈ BIG, w.before [.ref q].toArray s = true := fun w h => atoms_spec (ws := .code y_Meeting_init b_Meeting_init 1 none :: BIG) B.pre w (List.mem_cons_of_mem _ h)
  have hown : s.vm.findClass "RayField$Meeting" = some m.cls := findClass_of_methodNamed B.named
  have hlocks := B.notSynchronized
  have hK := hE.2
  have S0 : CallFix p m c b_Meeting_init 1 s [.ref q].toArray BIG "RayField$Meeting" := ⟨hx, hb, hml, hown, hts⟩
  have hl := lv_entry ([.ref q]) (n := 1) (Nat.le_of_ble_eq_true rfl)
  rw [lg_entry_eq]
  generalize (lg_sl ([.ref q]) ++ List.replicate (1 - (lg_sl ([.ref q])).length) Slot.unset).toArray = ls at hl ⊢
  have hl : lv_has ls 1 [(0, .ref q)] := hl
  obtain ⟨hsz, hP, hD0⟩ := hP
  have hin : meth.name = "<init>" := (name_of_methodNamed B.named B.method).1
  subst hsz
  have hD := hD0.self (sz := s.heap.size)
  generalize hAe : va_A [(q, .inr (2, [.int 0, .int 0, .long 0, .long 0, .long 0]))] s.heap.size = A at hD ⊢
  have hA : ∀ q : Nat, s.heap.size ≤ q → A q := fun q h => by rw [← hAe]; exact Or.inr h
  obtain ⟨H, hH⟩ : ∃ H : Heap, H = s.heap := ⟨_, rfl⟩
  refine rf_heap hH ?_
  have hS : va_S A s.heap H [] := by rw [hH]; exact va_S.rf
  have hP : va_P D vwCl [(q, .inr (2, [.int 0, .int 0, .long 0, .long 0, .long 0]))] H := by rw [hH]; exact hP
  refine lv_aload_n hx hb d_Meeting_init_0 rfl (lv_at hl 0 rfl) ?_
  refine W.objInit hx hb hown (hts _ w_126) (hts _ w_13) (hts _ w_14) rfl (by rw [hml]; exact hl.1) rfl d_Meeting_init_1 (Nat.le_of_ble_eq_true rfl) (Nat.le_of_ble_eq_true rfl) ?_
  refine W.eq (g2 := F0 m 4 ls []) rfl ?_
  exact W.vret hx hb hr (fun t ht hW => ⟨⟨(), rfl, trivial, by rw [ht]; exact hP, hD⟩, hS.F ht⟩) hS.2.2 d_Meeting_init_4
set_option maxHeartbeats 4000000 in
set_option maxRecDepth 100000 in
theorem c_Wall_exchange (l : Launch) (D : va_G) (tys : List (ClassId × FieldType)) (q : Nat) (w : Q4) (sz : Nat) : Met l y_Wall_exchangeEnds (.code y_Wall_exchangeEnds b_Wall_exchangeEnds 3 none :: BIG) { frames := 0, cells := 0, slots := 0, locals := 0 } (rf_Pc D tys [.ref q] (fun h => h.size = sz ∧ va_P D vwCl [(q, .inr (0, [.int w.1, .int w.2.1, .int w.2.2.1, .int w.2.2.2]))] h ∧ va_D (fun _ => True) [(q, .inr (0, [.int w.1, .int w.2.1, .int w.2.2.1, .int w.2.2.2]))])) (va_Qv (S := Unit) (fun _ => True) (fun u t => va_P D vwCl ([(q, e_W (w.2.2.1, w.2.2.2, w.1, w.2.1))]) t.heap ∧ va_D (va_A [(q, .inr (0, [.int w.1, .int w.2.1, .int w.2.2.1, .int w.2.2.2]))] sz) ([(q, e_W (w.2.2.1, w.2.2.2, w.1, w.2.1))])) (va_A [(q, .inr (0, [.int w.1, .int w.2.1, .int w.2.2.1, .int w.2.2.2]))] sz)) 0 0 (va_A [(q, .inr (0, [.int w.1, .int w.2.1, .int w.2.2.1, .int w.2.2.2]))] sz) := by
  refine Met.ofW (cc := b_Wall_exchangeEnds) (maxL := 3) (ret := none) (by decide) rfl ?_
  intro p e s m args below meth c s₁ B hml hv
  obtain ⟨rfl, hE, hP⟩ := hv
  have hx := B.exec
  have hb := B.bytes
  have hr := B.returns
  have hts : ∀ w ∈ BIG, w.before [.ref q].toArray s = true := fun w h => atoms_spec (ws := .code y_Wall_exchangeEnds b_Wall_exchangeEnds 3 none :: BIG) B.pre w (List.mem_cons_of_mem _ h)
  have hown : s.vm.findClass "RayField$Wall" = some m.cls := findClass_of_methodNamed B.named
  have hlocks := B.notSynchronized
  have hK := hE.2
  have S0 : CallFix p m c b_Wall_exchangeEnds 3 s [.ref q].toArray BIG "RayField$Wall" := ⟨hx, hb, hml, hown, hts⟩
  have hl := lv_entry ([.ref q]) (n := 3) (Nat.le_of_ble_eq_true rfl)
  rw [lg_entry_eq]
  generalize (lg_sl ([.ref q]) ++ List.replicate (3 - (lg_sl ([.ref q])).length) Slot.unset).toArray = ls at hl ⊢
  have hl : lv_has ls 3 [(0, .ref q)] := hl
  obtain ⟨hsz, hP, hD0⟩ := hP
  subst hsz
  have hD := hD0.self (sz := s.heap.size)
  generalize hAe : va_A [(q, .inr (0, [.int w.1, .int w.2.1, .int w.2.2.1, .int w.2.2.2]))] s.heap.size = A at hD ⊢
  have hA : ∀ q : Nat, s.heap.size ≤ q → A q := fun q h => by rw [← hAe]; exact Or.inr h
  obtain ⟨H, hH⟩ : ∃ H : Heap, H = s.heap := ⟨_, rfl⟩
  refine rf_heap hH ?_
  have hS : va_S A s.heap H [] := by rw [hH]; exact va_S.rf
  have hP : va_P D vwCl [(q, .inr (0, [.int w.1, .int w.2.1, .int w.2.2.1, .int w.2.2.2]))] H := by rw [hH]; exact hP
  refine lv_aload_n hx hb d_Wall_exchangeEnds_0 rfl (lv_at hl 0 rfl) ?_
  refine va_get (D := D) (ci := 0) (v := .int w.1) (C := "RayField$Wall") (T := F_Wall) (N := 4) hx hb hts in_Wall hown hK hP 0 rfl rfl 0 (by decide) (hts _ w_57) (fun _ h9 => h9) rfl d_Wall_exchangeEnds_1 ?_
  refine lv_istore_n (lv' := [(1, .int w.1), (0, .ref q)]) hx hb d_Wall_exchangeEnds_4 rfl hl (by decide) rfl (fun ls hl => ?_)
  refine lv_aload_n hx hb d_Wall_exchangeEnds_5 rfl (lv_at hl 1 rfl) ?_
  refine va_get (D := D) (ci := 0) (v := .int w.2.1) (C := "RayField$Wall") (T := F_Wall) (N := 4) hx hb hts in_Wall hown hK hP 0 rfl rfl 1 (by decide) (hts _ w_60) (fun _ h9 => h9) rfl d_Wall_exchangeEnds_6 ?_
  refine lv_istore_n (lv' := [(2, .int w.2.1), (1, .int w.1), (0, .ref q)]) hx hb d_Wall_exchangeEnds_9 rfl hl (by decide) rfl (fun ls hl => ?_)
  refine lv_aload_n hx hb d_Wall_exchangeEnds_10 rfl (lv_at hl 2 rfl) ?_
  refine lv_aload_n hx hb d_Wall_exchangeEnds_11 rfl (lv_at hl 2 rfl) ?_
  refine va_get (D := D) (ci := 0) (v := .int w.2.2.1) (C := "RayField$Wall") (T := F_Wall) (N := 4) hx hb hts in_Wall hown hK hP 0 rfl rfl 2 (by decide) (hts _ w_63) (fun _ h9 => h9) rfl d_Wall_exchangeEnds_12 ?_
  refine va_put (D := D) (ci := 0) (v := .int w.2.2.1) (ty := .int) (C := "RayField$Wall") (T := F_Wall) (N := 4) hx hb hts in_Wall t_Wall tok_Wall nn_Wall hown hK hP hD hS 0 rfl rfl 0 (by decide) (hts _ w_57) (fun _ h9 => h9) rfl (by decide +kernel) rfl rfl (Nat.le_of_ble_eq_true rfl) d_Wall_exchangeEnds_15 (fun H locs hP hD hS => ?_)
  have hP : va_P D vwCl [(q, .inr (0, [.int w.2.2.1, .int w.2.1, .int w.2.2.1, .int w.2.2.2]))] H := hP
  have hD : va_D A [(q, .inr (0, [.int w.2.2.1, .int w.2.1, .int w.2.2.1, .int w.2.2.2]))] := hD
  refine lv_aload_n hx hb d_Wall_exchangeEnds_18 rfl (lv_at hl 2 rfl) ?_
  refine lv_aload_n hx hb d_Wall_exchangeEnds_19 rfl (lv_at hl 2 rfl) ?_
  refine va_get (D := D) (ci := 0) (v := .int w.2.2.2) (C := "RayField$Wall") (T := F_Wall) (N := 4) hx hb hts in_Wall hown hK hP 0 rfl rfl 3 (by decide) (hts _ w_66) (fun _ h9 => h9) rfl d_Wall_exchangeEnds_20 ?_
  refine va_put (D := D) (ci := 0) (v := .int w.2.2.2) (ty := .int) (C := "RayField$Wall") (T := F_Wall) (N := 4) hx hb hts in_Wall t_Wall tok_Wall nn_Wall hown hK hP hD hS 0 rfl rfl 1 (by decide) (hts _ w_60) (fun _ h9 => h9) rfl (by decide +kernel) rfl rfl (Nat.le_of_ble_eq_true rfl) d_Wall_exchangeEnds_23 (fun H locs hP hD hS => ?_)
  have hP : va_P D vwCl [(q, .inr (0, [.int w.2.2.1, .int w.2.2.2, .int w.2.2.1, .int w.2.2.2]))] H := hP
  have hD : va_D A [(q, .inr (0, [.int w.2.2.1, .int w.2.2.2, .int w.2.2.1, .int w.2.2.2]))] := hD
  refine lv_aload_n hx hb d_Wall_exchangeEnds_26 rfl (lv_at hl 2 rfl) ?_
  refine lv_iload_n hx hb d_Wall_exchangeEnds_27 rfl (lv_at hl 1 rfl) ?_
  refine va_put (D := D) (ci := 0) (v := .int w.1) (ty := .int) (C := "RayField$Wall") (T := F_Wall) (N := 4) hx hb hts in_Wall t_Wall tok_Wall nn_Wall hown hK hP hD hS 0 rfl rfl 2 (by decide) (hts _ w_63) (fun _ h9 => h9) rfl (by decide +kernel) rfl rfl (Nat.le_of_ble_eq_true rfl) d_Wall_exchangeEnds_28 (fun H locs hP hD hS => ?_)
  have hP : va_P D vwCl [(q, .inr (0, [.int w.2.2.1, .int w.2.2.2, .int w.1, .int w.2.2.2]))] H := hP
  have hD : va_D A [(q, .inr (0, [.int w.2.2.1, .int w.2.2.2, .int w.1, .int w.2.2.2]))] := hD
  refine lv_aload_n hx hb d_Wall_exchangeEnds_31 rfl (lv_at hl 2 rfl) ?_
  refine lv_iload_n hx hb d_Wall_exchangeEnds_32 rfl (lv_at hl 0 rfl) ?_
  refine va_put (D := D) (ci := 0) (v := .int w.2.1) (ty := .int) (C := "RayField$Wall") (T := F_Wall) (N := 4) hx hb hts in_Wall t_Wall tok_Wall nn_Wall hown hK hP hD hS 0 rfl rfl 3 (by decide) (hts _ w_66) (fun _ h9 => h9) rfl (by decide +kernel) rfl rfl (Nat.le_of_ble_eq_true rfl) d_Wall_exchangeEnds_33 (fun H locs hP hD hS => ?_)
  have hP : va_P D vwCl [(q, .inr (0, [.int w.2.2.1, .int w.2.2.2, .int w.1, .int w.2.1]))] H := hP
  have hD : va_D A [(q, .inr (0, [.int w.2.2.1, .int w.2.2.2, .int w.1, .int w.2.1]))] := hD
  exact W.vret hx hb hr (fun t ht hW => ⟨⟨(), rfl, trivial, by rw [ht]; exact hP, hD⟩, hS.F ht⟩) hS.2.2 d_Wall_exchangeEnds_36
set_option maxHeartbeats 4000000 in
set_option maxRecDepth 100000 in
theorem c_Meeting_fill (l : Launch) (D : va_G) (tys : List (ClassId × FieldType)) (q q2 q3 : Nat) (n1 f1 : Int32) (d1 a1 v1 : Int64) (w ra : Q4) (nu : Int32) (sz : Nat) : Met l y_Meeting_fill (.code y_Meeting_fill b_Meeting_fill 12 (some (.boolean)) :: BIG) { frames := 2, cells := 0, slots := 0, locals := 80 } (rf_Pc D tys [.ref q, .int nu, .ref q2, .ref q3] (fun h => h.size = sz ∧ va_P D vwCl [(q, .inr (2, [.int n1, .int f1, .long d1, .long a1, .long v1])), (q2, .inr (0, [.int w.1, .int w.2.1, .int w.2.2.1, .int w.2.2.2])), (q3, .inr (1, [.int ra.1, .int ra.2.1, .int ra.2.2.1, .int ra.2.2.2]))] h ∧ va_D (fun _ => True) [(q, .inr (2, [.int n1, .int f1, .long d1, .long a1, .long v1])), (q2, .inr (0, [.int w.1, .int w.2.1, .int w.2.2.1, .int w.2.2.2])), (q3, .inr (1, [.int ra.1, .int ra.2.1, .int ra.2.2.1, .int ra.2.2.2]))])) (va_Qi (S := va_E) (fun r u => rf_tf r (m_met w ra) ∧ (m_met w ra → u = e_M nu (m_fr w ra) (m_abs (m_p w ra)) (m_abs (m_a w ra)) (m_abs (m_q w ra))) ∧ (¬ m_met w ra → u = e_M n1 f1 d1 a1 v1)) (fun u t => va_P D vwCl ([(q, u), (q2, e_W w), (q3, e_R ra)]) t.heap ∧ va_D (va_A [(q, .inr (2, [.int n1, .int f1, .long d1, .long a1, .long v1])), (q2, .inr (0, [.int w.1, .int w.2.1, .int w.2.2.1, .int w.2.2.2])), (q3, .inr (1, [.int ra.1, .int ra.2.1, .int ra.2.2.1, .int ra.2.2.2]))] sz) ([(q, u), (q2, e_W w), (q3, e_R ra)])) (va_A [(q, .inr (2, [.int n1, .int f1, .long d1, .long a1, .long v1])), (q2, .inr (0, [.int w.1, .int w.2.1, .int w.2.2.1, .int w.2.2.2])), (q3, .inr (1, [.int ra.1, .int ra.2.1, .int ra.2.2.1, .int ra.2.2.2]))] sz)) 0 0 (va_A [(q, .inr (2, [.int n1, .int f1, .long d1, .long a1, .long v1])), (q2, .inr (0, [.int w.1, .int w.2.1, .int w.2.2.1, .int w.2.2.2])), (q3, .inr (1, [.int ra.1, .int ra.2.1, .int ra.2.2.1, .int ra.2.2.2]))] sz) := by
  refine Met.ofW (cc := b_Meeting_fill) (maxL := 12) (ret := (some (.boolean))) (by decide) rfl ?_
  intro p e s m args below meth c s₁ B hml hv
  obtain ⟨rfl, hE, hP⟩ := hv
  have hx := B.exec
  have hb := B.bytes
  have hr := B.returns
  have hts : ∀ w ∈ BIG, w.before [.ref q, .int nu, .ref q2, .ref q3].toArray s = true := fun w h => atoms_spec (ws := .code y_Meeting_fill b_Meeting_fill 12 (some (.boolean)) :: BIG) B.pre w (List.mem_cons_of_mem _ h)
  have hown : s.vm.findClass "RayField$Meeting" = some m.cls := findClass_of_methodNamed B.named
  have hlocks := B.notSynchronized
  have hK := hE.2
  have S0 : CallFix p m c b_Meeting_fill 12 s [.ref q, .int nu, .ref q2, .ref q3].toArray BIG "RayField$Meeting" := ⟨hx, hb, hml, hown, hts⟩
  have hl := lv_entry ([.ref q, .int nu, .ref q2, .ref q3]) (n := 12) (Nat.le_of_ble_eq_true rfl)
  rw [lg_entry_eq]
  generalize (lg_sl ([.ref q, .int nu, .ref q2, .ref q3]) ++ List.replicate (12 - (lg_sl ([.ref q, .int nu, .ref q2, .ref q3])).length) Slot.unset).toArray = ls at hl ⊢
  have hl : lv_has ls 12 [(0, .ref q), (1, .int nu), (2, .ref q2), (3, .ref q3)] := hl
  obtain ⟨hsz, hP, hD0⟩ := hP
  subst hsz
  have hD := hD0.self (sz := s.heap.size)
  generalize hAe : va_A [(q, .inr (2, [.int n1, .int f1, .long d1, .long a1, .long v1])), (q2, .inr (0, [.int w.1, .int w.2.1, .int w.2.2.1, .int w.2.2.2])), (q3, .inr (1, [.int ra.1, .int ra.2.1, .int ra.2.2.1, .int ra.2.2.2]))] s.heap.size = A at hD ⊢
  have hA : ∀ q : Nat, s.heap.size ≤ q → A q := fun q h => by rw [← hAe]; exact Or.inr h
  obtain ⟨H, hH⟩ : ∃ H : Heap, H = s.heap := ⟨_, rfl⟩
  refine rf_heap hH ?_
  have hS : va_S A s.heap H [] := by rw [hH]; exact va_S.rf
  have hP : va_P D vwCl [(q, .inr (2, [.int n1, .int f1, .long d1, .long a1, .long v1])), (q2, .inr (0, [.int w.1, .int w.2.1, .int w.2.2.1, .int w.2.2.2])), (q3, .inr (1, [.int ra.1, .int ra.2.1, .int ra.2.2.1, .int ra.2.2.2]))] H := by rw [hH]; exact hP
  refine lv_aload_n hx hb d_Meeting_fill_0 rfl (lv_at hl 3 rfl) ?_
  refine lv_aload_n hx hb d_Meeting_fill_1 rfl (lv_at hl 2 rfl) ?_
  refine va_getN (D := D) (ci := 0) (v := .int w.1) (C := "RayField$Wall") (T := F_Wall) (N := 4) hx hb hts in_Wall hown hK hP 1 rfl rfl 0 (by decide) (va_Nw.use rfl (hE.1.1 _ w_58 rfl)) (fun _ h9 => h9) rfl d_Meeting_fill_2 ?_
  refine lv_aload_n hx hb d_Meeting_fill_5 rfl (lv_at hl 2 rfl) ?_
  refine va_getN (D := D) (ci := 0) (v := .int w.2.1) (C := "RayField$Wall") (T := F_Wall) (N := 4) hx hb hts in_Wall hown hK hP 1 rfl rfl 1 (by decide) (va_Nw.use rfl (hE.1.1 _ w_61 rfl)) (fun _ h9 => h9) rfl d_Meeting_fill_6 ?_
  refine vp_callSl (va_Run.run (rf_runV (As := [.int w.1, .int w.2.1]) (rest := []) S0 ml_Meeting_18 (c_Ray_side l D tys q3 ra w.1 w.2.1) hE (va_recv hK hP (ci := 1) (q0 := 2) rfl rfl) (hP.sub [2] rfl) ⟨rfl, rfl, Nat.le_of_ble_eq_true rfl, Nat.le_of_ble_eq_true rfl⟩ rfl hl.1 rfl (Nat.le_of_ble_eq_true rfl) d_Meeting_fill_9 ⟨Nat.zero_le _, Nat.zero_le _⟩)) (fun r_1 h_2 => ?_)
  subst h_2
  refine lv_lstore (lv' := [(4, .long (m_rside ra w.1 w.2.1)), (0, .ref q), (1, .int nu), (2, .ref q2), (3, .ref q3)]) hx hb d_Meeting_fill_12 hl (by decide) rfl (fun ls hl => ?_)
  refine lv_aload_n hx hb d_Meeting_fill_14 rfl (lv_at hl 4 rfl) ?_
  refine lv_aload_n hx hb d_Meeting_fill_15 rfl (lv_at hl 3 rfl) ?_
  refine va_getN (D := D) (ci := 0) (v := .int w.2.2.1) (C := "RayField$Wall") (T := F_Wall) (N := 4) hx hb hts in_Wall hown hK hP 1 rfl rfl 2 (by decide) (va_Nw.use rfl (hE.1.1 _ w_64 rfl)) (fun _ h9 => h9) rfl d_Meeting_fill_16 ?_
  refine lv_aload_n hx hb d_Meeting_fill_19 rfl (lv_at hl 3 rfl) ?_
  refine va_getN (D := D) (ci := 0) (v := .int w.2.2.2) (C := "RayField$Wall") (T := F_Wall) (N := 4) hx hb hts in_Wall hown hK hP 1 rfl rfl 3 (by decide) (va_Nw.use rfl (hE.1.1 _ w_67 rfl)) (fun _ h9 => h9) rfl d_Meeting_fill_20 ?_
  refine vp_callSl (va_Run.run (rf_runV (As := [.int w.2.2.1, .int w.2.2.2]) (rest := []) S0 ml_Meeting_18 (c_Ray_side l D tys q3 ra w.2.2.1 w.2.2.2) hE (va_recv hK hP (ci := 1) (q0 := 2) rfl rfl) (hP.sub [2] rfl) ⟨rfl, rfl, Nat.le_of_ble_eq_true rfl, Nat.le_of_ble_eq_true rfl⟩ rfl hl.1 rfl (Nat.le_of_ble_eq_true rfl) d_Meeting_fill_23 ⟨Nat.zero_le _, Nat.zero_le _⟩)) (fun r_3 h_4 => ?_)
  subst h_4
  refine lv_lstore (lv' := [(6, .long (m_rside ra w.2.2.1 w.2.2.2)), (4, .long (m_rside ra w.1 w.2.1)), (0, .ref q), (1, .int nu), (2, .ref q2), (3, .ref q3)]) hx hb d_Meeting_fill_26 hl (by decide) rfl (fun ls hl => ?_)
  refine rf_joinU 57 [] (¬ (m_a w ra < 0 ↔ m_b w ra < 0)) (fun hX => ?_) (fun J57 => ?_)
  · refine lv_aload_n hx hb d_Meeting_fill_57 rfl (lv_at hl 4 rfl) ?_
    refine lv_aload_n hx hb d_Meeting_fill_58 rfl (lv_at hl 5 rfl) ?_
    refine va_getN (D := D) (ci := 1) (v := .int ra.1) (C := "RayField$Ray") (T := F_Ray) (N := 4) hx hb hts in_Ray hown hK hP 2 rfl rfl 0 (by decide) (va_Nw.use rfl (hE.1.1 _ w_199 rfl)) (fun _ h9 => h9) rfl d_Meeting_fill_59 ?_
    refine lv_aload_n hx hb d_Meeting_fill_62 rfl (lv_at hl 5 rfl) ?_
    refine va_getN (D := D) (ci := 1) (v := .int ra.2.1) (C := "RayField$Ray") (T := F_Ray) (N := 4) hx hb hts in_Ray hown hK hP 2 rfl rfl 1 (by decide) (va_Nw.use rfl (hE.1.1 _ w_201 rfl)) (fun _ h9 => h9) rfl d_Meeting_fill_63 ?_
    refine vp_callSl (va_Run.run (rf_runV (As := [.int ra.1, .int ra.2.1]) (rest := []) S0 ml_Meeting_36 (c_Wall_side l D tys q2 w ra.1 ra.2.1) hE (va_recv hK hP (ci := 0) (q0 := 1) rfl rfl) (hP.sub [1] rfl) ⟨rfl, rfl, Nat.le_of_ble_eq_true rfl, Nat.le_of_ble_eq_true rfl⟩ rfl hl.1 rfl (Nat.le_of_ble_eq_true rfl) d_Meeting_fill_66 ⟨Nat.zero_le _, Nat.zero_le _⟩)) (fun r_5 h_6 => ?_)
    subst h_6
    refine lv_lstore (lv' := [(8, .long (m_side w ra.1 ra.2.1)), (6, .long (m_rside ra w.2.2.1 w.2.2.2)), (4, .long (m_rside ra w.1 w.2.1)), (0, .ref q), (1, .int nu), (2, .ref q2), (3, .ref q3)]) hx hb d_Meeting_fill_69 hl (by decide) rfl (fun ls hl => ?_)
    refine lv_lload hx hb d_Meeting_fill_71 (lv_at hl 1 rfl) ?_
    refine lv_lload hx hb d_Meeting_fill_73 (lv_at hl 2 rfl) ?_
    refine lv_lsub hx hb d_Meeting_fill_75 ?_
    refine lv_lstore (lv' := [(10, .long ((m_rside ra w.2.2.1 w.2.2.2) - (m_rside ra w.1 w.2.1))), (8, .long (m_side w ra.1 ra.2.1)), (6, .long (m_rside ra w.2.2.1 w.2.2.2)), (4, .long (m_rside ra w.1 w.2.1)), (0, .ref q), (1, .int nu), (2, .ref q2), (3, .ref q3)]) hx hb d_Meeting_fill_76 hl (by decide) rfl (fun ls hl => ?_)
    refine lv_lload hx hb d_Meeting_fill_78 (lv_at hl 1 rfl) ?_
    refine lv_lconst (v := 0) hx hb d_Meeting_fill_80 (by decide) ?_
    refine rf_lcmp_eq (tgt := 112) hx hb d_Meeting_fill_81 d_Meeting_fill_82 (by decide) (fun c_7 => ?_) (fun c_7 => ?_)
    · refine lv_iconst (v := 0) hx hb d_Meeting_fill_112 (by decide) ?_
      exact W.zret (v := 0) (ty := .boolean) hx hb hr rfl (fun t ht hW => ⟨⟨_, _, rfl, ⟨rf_F (fun h => h.2.1 c_7), fun h => absurd h (fun h => h.2.1 c_7), fun _ => rfl⟩, by rw [ht]; exact hP, hD⟩, hS.F ht⟩) hS.2.2 d_Meeting_fill_113
    · refine lv_lload hx hb d_Meeting_fill_85 (lv_at hl 1 rfl) ?_
      refine lv_lconst (v := 0) hx hb d_Meeting_fill_87 (by decide) ?_
      refine rf_lcmp_ge (tgt := 96) hx hb d_Meeting_fill_88 d_Meeting_fill_89 (by decide) (fun c_8 => ?_) (fun c_8 => ?_)
      · refine lv_iconst (v := 0) hx hb d_Meeting_fill_96 (by decide) ?_
        refine lv_lload hx hb d_Meeting_fill_97 (lv_at hl 0 rfl) ?_
        refine lv_lconst (v := 0) hx hb d_Meeting_fill_99 (by decide) ?_
        refine rf_lcmp_ge (tgt := 108) hx hb d_Meeting_fill_100 d_Meeting_fill_101 (by decide) (fun c_9 => ?_) (fun c_9 => ?_)
        · refine lv_iconst (v := 0) hx hb d_Meeting_fill_108 (by decide) ?_
          refine lv_icmp_eq (tgt := 114) hx hb d_Meeting_fill_109 (by decide) (fun c_10 => ?_) (fun c_10 => absurd rfl c_10)
          have hmet : m_met w ra := ⟨hX, c_7, ⟨fun h => absurd h (Int64.not_lt.mpr c_8), fun h => absurd h (Int64.not_lt.mpr c_9)⟩⟩
          refine lv_aload_n hx hb d_Meeting_fill_114 rfl (lv_at hl 4 rfl) ?_
          refine lv_iload_n hx hb d_Meeting_fill_115 rfl (lv_at hl 5 rfl) ?_
          refine va_put (D := D) (ci := 2) (v := .int nu) (ty := .int) (C := "RayField$Meeting") (T := F_Meeting) (N := 5) hx hb hts in_Meeting t_Meeting tok_Meeting nn_Meeting hown hK hP hD hS 0 rfl rfl 0 (by decide) (hts _ w_127) (fun _ h9 => h9) rfl (by decide +kernel) rfl rfl (Nat.le_of_ble_eq_true rfl) d_Meeting_fill_116 (fun H locs hP hD hS => ?_)
          have hP : va_P D vwCl [(q, .inr (2, [.int nu, .int f1, .long d1, .long a1, .long v1])), (q2, .inr (0, [.int w.1, .int w.2.1, .int w.2.2.1, .int w.2.2.2])), (q3, .inr (1, [.int ra.1, .int ra.2.1, .int ra.2.2.1, .int ra.2.2.2]))] H := hP
          have hD : va_D A [(q, .inr (2, [.int nu, .int f1, .long d1, .long a1, .long v1])), (q2, .inr (0, [.int w.1, .int w.2.1, .int w.2.2.1, .int w.2.2.2])), (q3, .inr (1, [.int ra.1, .int ra.2.1, .int ra.2.2.1, .int ra.2.2.2]))] := hD
          refine lv_aload_n hx hb d_Meeting_fill_119 rfl (lv_at hl 4 rfl) ?_
          refine lv_lload hx hb d_Meeting_fill_120 (lv_at hl 1 rfl) ?_
          refine lv_lconst (v := 0) hx hb d_Meeting_fill_122 (by decide) ?_
          refine rf_lcmp_ge (tgt := 131) hx hb d_Meeting_fill_123 d_Meeting_fill_124 (by decide) (fun c_11 => ?_) (fun c_11 => absurd (Int64.not_le.mp c_11) (Int64.not_lt.mpr c_8))
          refine lv_iconst (v := 0) hx hb d_Meeting_fill_131 (by decide) ?_
          refine va_put (D := D) (ci := 2) (v := .int 0) (ty := .boolean) (C := "RayField$Meeting") (T := F_Meeting) (N := 5) hx hb hts in_Meeting t_Meeting tok_Meeting nn_Meeting hown hK hP hD hS 0 rfl rfl 1 (by decide) (hts _ w_129) (fun _ h9 => h9) rfl (by decide +kernel) rfl rfl (Nat.le_of_ble_eq_true rfl) d_Meeting_fill_132 (fun H locs hP hD hS => ?_)
          have hP : va_P D vwCl [(q, .inr (2, [.int nu, .int 0, .long d1, .long a1, .long v1])), (q2, .inr (0, [.int w.1, .int w.2.1, .int w.2.2.1, .int w.2.2.2])), (q3, .inr (1, [.int ra.1, .int ra.2.1, .int ra.2.2.1, .int ra.2.2.2]))] H := hP
          have hD : va_D A [(q, .inr (2, [.int nu, .int 0, .long d1, .long a1, .long v1])), (q2, .inr (0, [.int w.1, .int w.2.1, .int w.2.2.1, .int w.2.2.2])), (q3, .inr (1, [.int ra.1, .int ra.2.1, .int ra.2.2.1, .int ra.2.2.2]))] := hD
          refine lv_aload_n hx hb d_Meeting_fill_135 rfl (lv_at hl 4 rfl) ?_
          refine lv_lload hx hb d_Meeting_fill_136 (lv_at hl 1 rfl) ?_
          refine va_mabs_long hx hb (hml.trans hl.1.symm) hown (hts _ w_157) (hts _ w_158) (hts _ w_4) (hts _ w_159) (Nat.le_of_ble_eq_true rfl) (Nat.le_of_ble_eq_true rfl) (Nat.zero_le _) (Nat.zero_le _) d_Meeting_fill_138 ?_
          refine rf_topl (y := m_abs (m_side w ra.1 ra.2.1)) rfl ?_
          refine va_put (D := D) (ci := 2) (v := .long (m_abs (m_side w ra.1 ra.2.1))) (ty := .long) (C := "RayField$Meeting") (T := F_Meeting) (N := 5) hx hb hts in_Meeting t_Meeting tok_Meeting nn_Meeting hown hK hP hD hS 0 rfl rfl 2 (by decide) (hts _ w_131) (fun _ h9 => h9) rfl (by decide +kernel) rfl rfl (Nat.le_of_ble_eq_true rfl) d_Meeting_fill_141 (fun H locs hP hD hS => ?_)
          have hP : va_P D vwCl [(q, .inr (2, [.int nu, .int 0, .long (m_abs (m_side w ra.1 ra.2.1)), .long a1, .long v1])), (q2, .inr (0, [.int w.1, .int w.2.1, .int w.2.2.1, .int w.2.2.2])), (q3, .inr (1, [.int ra.1, .int ra.2.1, .int ra.2.2.1, .int ra.2.2.2]))] H := hP
          have hD : va_D A [(q, .inr (2, [.int nu, .int 0, .long (m_abs (m_side w ra.1 ra.2.1)), .long a1, .long v1])), (q2, .inr (0, [.int w.1, .int w.2.1, .int w.2.2.1, .int w.2.2.2])), (q3, .inr (1, [.int ra.1, .int ra.2.1, .int ra.2.2.1, .int ra.2.2.2]))] := hD
          refine lv_aload_n hx hb d_Meeting_fill_144 rfl (lv_at hl 4 rfl) ?_
          refine lv_lload hx hb d_Meeting_fill_145 (lv_at hl 3 rfl) ?_
          refine va_mabs_long hx hb (hml.trans hl.1.symm) hown (hts _ w_157) (hts _ w_158) (hts _ w_4) (hts _ w_159) (Nat.le_of_ble_eq_true rfl) (Nat.le_of_ble_eq_true rfl) (Nat.zero_le _) (Nat.zero_le _) d_Meeting_fill_147 ?_
          refine rf_topl (y := m_abs (m_rside ra w.1 w.2.1)) rfl ?_
          refine va_put (D := D) (ci := 2) (v := .long (m_abs (m_rside ra w.1 w.2.1))) (ty := .long) (C := "RayField$Meeting") (T := F_Meeting) (N := 5) hx hb hts in_Meeting t_Meeting tok_Meeting nn_Meeting hown hK hP hD hS 0 rfl rfl 3 (by decide) (hts _ w_133) (fun _ h9 => h9) rfl (by decide +kernel) rfl rfl (Nat.le_of_ble_eq_true rfl) d_Meeting_fill_150 (fun H locs hP hD hS => ?_)
          have hP : va_P D vwCl [(q, .inr (2, [.int nu, .int 0, .long (m_abs (m_side w ra.1 ra.2.1)), .long (m_abs (m_rside ra w.1 w.2.1)), .long v1])), (q2, .inr (0, [.int w.1, .int w.2.1, .int w.2.2.1, .int w.2.2.2])), (q3, .inr (1, [.int ra.1, .int ra.2.1, .int ra.2.2.1, .int ra.2.2.2]))] H := hP
          have hD : va_D A [(q, .inr (2, [.int nu, .int 0, .long (m_abs (m_side w ra.1 ra.2.1)), .long (m_abs (m_rside ra w.1 w.2.1)), .long v1])), (q2, .inr (0, [.int w.1, .int w.2.1, .int w.2.2.1, .int w.2.2.2])), (q3, .inr (1, [.int ra.1, .int ra.2.1, .int ra.2.2.1, .int ra.2.2.2]))] := hD
          refine lv_aload_n hx hb d_Meeting_fill_153 rfl (lv_at hl 4 rfl) ?_
          refine lv_lload hx hb d_Meeting_fill_154 (lv_at hl 0 rfl) ?_
          refine va_mabs_long hx hb (hml.trans hl.1.symm) hown (hts _ w_157) (hts _ w_158) (hts _ w_4) (hts _ w_159) (Nat.le_of_ble_eq_true rfl) (Nat.le_of_ble_eq_true rfl) (Nat.zero_le _) (Nat.zero_le _) d_Meeting_fill_156 ?_
          refine rf_topl (y := m_abs ((m_rside ra w.2.2.1 w.2.2.2) - (m_rside ra w.1 w.2.1))) rfl ?_
          refine va_put (D := D) (ci := 2) (v := .long (m_abs ((m_rside ra w.2.2.1 w.2.2.2) - (m_rside ra w.1 w.2.1)))) (ty := .long) (C := "RayField$Meeting") (T := F_Meeting) (N := 5) hx hb hts in_Meeting t_Meeting tok_Meeting nn_Meeting hown hK hP hD hS 0 rfl rfl 4 (by decide) (hts _ w_135) (fun _ h9 => h9) rfl (by decide +kernel) rfl rfl (Nat.le_of_ble_eq_true rfl) d_Meeting_fill_159 (fun H locs hP hD hS => ?_)
          have hP : va_P D vwCl [(q, .inr (2, [.int nu, .int 0, .long (m_abs (m_side w ra.1 ra.2.1)), .long (m_abs (m_rside ra w.1 w.2.1)), .long (m_abs ((m_rside ra w.2.2.1 w.2.2.2) - (m_rside ra w.1 w.2.1)))])), (q2, .inr (0, [.int w.1, .int w.2.1, .int w.2.2.1, .int w.2.2.2])), (q3, .inr (1, [.int ra.1, .int ra.2.1, .int ra.2.2.1, .int ra.2.2.2]))] H := hP
          have hD : va_D A [(q, .inr (2, [.int nu, .int 0, .long (m_abs (m_side w ra.1 ra.2.1)), .long (m_abs (m_rside ra w.1 w.2.1)), .long (m_abs ((m_rside ra w.2.2.1 w.2.2.2) - (m_rside ra w.1 w.2.1)))])), (q2, .inr (0, [.int w.1, .int w.2.1, .int w.2.2.1, .int w.2.2.2])), (q3, .inr (1, [.int ra.1, .int ra.2.1, .int ra.2.2.1, .int ra.2.2.2]))] := hD
          refine lv_iconst (v := 1) hx hb d_Meeting_fill_162 (by decide) ?_
          exact W.zret (v := 1) (ty := .boolean) hx hb hr rfl (fun t ht hW => ⟨⟨_, _, rfl, ⟨rf_T hmet, fun _ => by rw [show m_fr w ra = 0 from (if_neg (Int64.not_lt.mpr c_11))]; first | done | rfl, fun h => absurd hmet h⟩, by rw [ht]; exact hP, hD⟩, hS.F ht⟩) hS.2.2 d_Meeting_fill_163
        · refine lv_iconst (v := 1) hx hb d_Meeting_fill_104 (by decide) ?_
          refine lv_goto (tgt := 109) hx hb d_Meeting_fill_105 (by decide) ?_
          refine lv_icmp_eq (tgt := 114) hx hb d_Meeting_fill_109 (by decide) (fun c_12 => absurd c_12 (by decide)) (fun c_12 => ?_)
          refine lv_iconst (v := 0) hx hb d_Meeting_fill_112 (by decide) ?_
          exact W.zret (v := 0) (ty := .boolean) hx hb hr rfl (fun t ht hW => ⟨⟨_, _, rfl, ⟨rf_F (fun h => (Int64.not_lt.mpr c_8) (h.2.2.mpr (Int64.not_le.mp c_9))), fun h => absurd h (fun h => (Int64.not_lt.mpr c_8) (h.2.2.mpr (Int64.not_le.mp c_9))), fun _ => rfl⟩, by rw [ht]; exact hP, hD⟩, hS.F ht⟩) hS.2.2 d_Meeting_fill_113
      · refine lv_iconst (v := 1) hx hb d_Meeting_fill_92 (by decide) ?_
        refine lv_goto (tgt := 97) hx hb d_Meeting_fill_93 (by decide) ?_
        refine lv_lload hx hb d_Meeting_fill_97 (lv_at hl 0 rfl) ?_
        refine lv_lconst (v := 0) hx hb d_Meeting_fill_99 (by decide) ?_
        refine rf_lcmp_ge (tgt := 108) hx hb d_Meeting_fill_100 d_Meeting_fill_101 (by decide) (fun c_13 => ?_) (fun c_13 => ?_)
        · refine lv_iconst (v := 0) hx hb d_Meeting_fill_108 (by decide) ?_
          refine lv_icmp_eq (tgt := 114) hx hb d_Meeting_fill_109 (by decide) (fun c_14 => absurd c_14 (by decide)) (fun c_14 => ?_)
          refine lv_iconst (v := 0) hx hb d_Meeting_fill_112 (by decide) ?_
          exact W.zret (v := 0) (ty := .boolean) hx hb hr rfl (fun t ht hW => ⟨⟨_, _, rfl, ⟨rf_F (fun h => (Int64.not_lt.mpr c_13) (h.2.2.mp (Int64.not_le.mp c_8))), fun h => absurd h (fun h => (Int64.not_lt.mpr c_13) (h.2.2.mp (Int64.not_le.mp c_8))), fun _ => rfl⟩, by rw [ht]; exact hP, hD⟩, hS.F ht⟩) hS.2.2 d_Meeting_fill_113
        · refine lv_iconst (v := 1) hx hb d_Meeting_fill_104 (by decide) ?_
          refine lv_goto (tgt := 109) hx hb d_Meeting_fill_105 (by decide) ?_
          refine lv_icmp_eq (tgt := 114) hx hb d_Meeting_fill_109 (by decide) (fun c_15 => ?_) (fun c_15 => absurd rfl c_15)
          have hmet : m_met w ra := ⟨hX, c_7, ⟨fun _ => (Int64.not_le.mp c_13), fun _ => (Int64.not_le.mp c_8)⟩⟩
          refine lv_aload_n hx hb d_Meeting_fill_114 rfl (lv_at hl 4 rfl) ?_
          refine lv_iload_n hx hb d_Meeting_fill_115 rfl (lv_at hl 5 rfl) ?_
          refine va_put (D := D) (ci := 2) (v := .int nu) (ty := .int) (C := "RayField$Meeting") (T := F_Meeting) (N := 5) hx hb hts in_Meeting t_Meeting tok_Meeting nn_Meeting hown hK hP hD hS 0 rfl rfl 0 (by decide) (hts _ w_127) (fun _ h9 => h9) rfl (by decide +kernel) rfl rfl (Nat.le_of_ble_eq_true rfl) d_Meeting_fill_116 (fun H locs hP hD hS => ?_)
          have hP : va_P D vwCl [(q, .inr (2, [.int nu, .int f1, .long d1, .long a1, .long v1])), (q2, .inr (0, [.int w.1, .int w.2.1, .int w.2.2.1, .int w.2.2.2])), (q3, .inr (1, [.int ra.1, .int ra.2.1, .int ra.2.2.1, .int ra.2.2.2]))] H := hP
          have hD : va_D A [(q, .inr (2, [.int nu, .int f1, .long d1, .long a1, .long v1])), (q2, .inr (0, [.int w.1, .int w.2.1, .int w.2.2.1, .int w.2.2.2])), (q3, .inr (1, [.int ra.1, .int ra.2.1, .int ra.2.2.1, .int ra.2.2.2]))] := hD
          refine lv_aload_n hx hb d_Meeting_fill_119 rfl (lv_at hl 4 rfl) ?_
          refine lv_lload hx hb d_Meeting_fill_120 (lv_at hl 1 rfl) ?_
          refine lv_lconst (v := 0) hx hb d_Meeting_fill_122 (by decide) ?_
          refine rf_lcmp_ge (tgt := 131) hx hb d_Meeting_fill_123 d_Meeting_fill_124 (by decide) (fun c_16 => absurd (Int64.not_le.mp c_8) (Int64.not_lt.mpr c_16)) (fun c_16 => ?_)
          refine lv_iconst (v := 1) hx hb d_Meeting_fill_127 (by decide) ?_
          refine lv_goto (tgt := 132) hx hb d_Meeting_fill_128 (by decide) ?_
          refine va_put (D := D) (ci := 2) (v := .int 1) (ty := .boolean) (C := "RayField$Meeting") (T := F_Meeting) (N := 5) hx hb hts in_Meeting t_Meeting tok_Meeting nn_Meeting hown hK hP hD hS 0 rfl rfl 1 (by decide) (hts _ w_129) (fun _ h9 => h9) rfl (by decide +kernel) rfl rfl (Nat.le_of_ble_eq_true rfl) d_Meeting_fill_132 (fun H locs hP hD hS => ?_)
          have hP : va_P D vwCl [(q, .inr (2, [.int nu, .int 1, .long d1, .long a1, .long v1])), (q2, .inr (0, [.int w.1, .int w.2.1, .int w.2.2.1, .int w.2.2.2])), (q3, .inr (1, [.int ra.1, .int ra.2.1, .int ra.2.2.1, .int ra.2.2.2]))] H := hP
          have hD : va_D A [(q, .inr (2, [.int nu, .int 1, .long d1, .long a1, .long v1])), (q2, .inr (0, [.int w.1, .int w.2.1, .int w.2.2.1, .int w.2.2.2])), (q3, .inr (1, [.int ra.1, .int ra.2.1, .int ra.2.2.1, .int ra.2.2.2]))] := hD
          refine lv_aload_n hx hb d_Meeting_fill_135 rfl (lv_at hl 4 rfl) ?_
          refine lv_lload hx hb d_Meeting_fill_136 (lv_at hl 1 rfl) ?_
          refine va_mabs_long hx hb (hml.trans hl.1.symm) hown (hts _ w_157) (hts _ w_158) (hts _ w_4) (hts _ w_159) (Nat.le_of_ble_eq_true rfl) (Nat.le_of_ble_eq_true rfl) (Nat.zero_le _) (Nat.zero_le _) d_Meeting_fill_138 ?_
          refine rf_topl (y := m_abs (m_side w ra.1 ra.2.1)) rfl ?_
          refine va_put (D := D) (ci := 2) (v := .long (m_abs (m_side w ra.1 ra.2.1))) (ty := .long) (C := "RayField$Meeting") (T := F_Meeting) (N := 5) hx hb hts in_Meeting t_Meeting tok_Meeting nn_Meeting hown hK hP hD hS 0 rfl rfl 2 (by decide) (hts _ w_131) (fun _ h9 => h9) rfl (by decide +kernel) rfl rfl (Nat.le_of_ble_eq_true rfl) d_Meeting_fill_141 (fun H locs hP hD hS => ?_)
          have hP : va_P D vwCl [(q, .inr (2, [.int nu, .int 1, .long (m_abs (m_side w ra.1 ra.2.1)), .long a1, .long v1])), (q2, .inr (0, [.int w.1, .int w.2.1, .int w.2.2.1, .int w.2.2.2])), (q3, .inr (1, [.int ra.1, .int ra.2.1, .int ra.2.2.1, .int ra.2.2.2]))] H := hP
          have hD : va_D A [(q, .inr (2, [.int nu, .int 1, .long (m_abs (m_side w ra.1 ra.2.1)), .long a1, .long v1])), (q2, .inr (0, [.int w.1, .int w.2.1, .int w.2.2.1, .int w.2.2.2])), (q3, .inr (1, [.int ra.1, .int ra.2.1, .int ra.2.2.1, .int ra.2.2.2]))] := hD
          refine lv_aload_n hx hb d_Meeting_fill_144 rfl (lv_at hl 4 rfl) ?_
          refine lv_lload hx hb d_Meeting_fill_145 (lv_at hl 3 rfl) ?_
          refine va_mabs_long hx hb (hml.trans hl.1.symm) hown (hts _ w_157) (hts _ w_158) (hts _ w_4) (hts _ w_159) (Nat.le_of_ble_eq_true rfl) (Nat.le_of_ble_eq_true rfl) (Nat.zero_le _) (Nat.zero_le _) d_Meeting_fill_147 ?_
          refine rf_topl (y := m_abs (m_rside ra w.1 w.2.1)) rfl ?_
          refine va_put (D := D) (ci := 2) (v := .long (m_abs (m_rside ra w.1 w.2.1))) (ty := .long) (C := "RayField$Meeting") (T := F_Meeting) (N := 5) hx hb hts in_Meeting t_Meeting tok_Meeting nn_Meeting hown hK hP hD hS 0 rfl rfl 3 (by decide) (hts _ w_133) (fun _ h9 => h9) rfl (by decide +kernel) rfl rfl (Nat.le_of_ble_eq_true rfl) d_Meeting_fill_150 (fun H locs hP hD hS => ?_)
          have hP : va_P D vwCl [(q, .inr (2, [.int nu, .int 1, .long (m_abs (m_side w ra.1 ra.2.1)), .long (m_abs (m_rside ra w.1 w.2.1)), .long v1])), (q2, .inr (0, [.int w.1, .int w.2.1, .int w.2.2.1, .int w.2.2.2])), (q3, .inr (1, [.int ra.1, .int ra.2.1, .int ra.2.2.1, .int ra.2.2.2]))] H := hP
          have hD : va_D A [(q, .inr (2, [.int nu, .int 1, .long (m_abs (m_side w ra.1 ra.2.1)), .long (m_abs (m_rside ra w.1 w.2.1)), .long v1])), (q2, .inr (0, [.int w.1, .int w.2.1, .int w.2.2.1, .int w.2.2.2])), (q3, .inr (1, [.int ra.1, .int ra.2.1, .int ra.2.2.1, .int ra.2.2.2]))] := hD
          refine lv_aload_n hx hb d_Meeting_fill_153 rfl (lv_at hl 4 rfl) ?_
          refine lv_lload hx hb d_Meeting_fill_154 (lv_at hl 0 rfl) ?_
          refine va_mabs_long hx hb (hml.trans hl.1.symm) hown (hts _ w_157) (hts _ w_158) (hts _ w_4) (hts _ w_159) (Nat.le_of_ble_eq_true rfl) (Nat.le_of_ble_eq_true rfl) (Nat.zero_le _) (Nat.zero_le _) d_Meeting_fill_156 ?_
          refine rf_topl (y := m_abs ((m_rside ra w.2.2.1 w.2.2.2) - (m_rside ra w.1 w.2.1))) rfl ?_
          refine va_put (D := D) (ci := 2) (v := .long (m_abs ((m_rside ra w.2.2.1 w.2.2.2) - (m_rside ra w.1 w.2.1)))) (ty := .long) (C := "RayField$Meeting") (T := F_Meeting) (N := 5) hx hb hts in_Meeting t_Meeting tok_Meeting nn_Meeting hown hK hP hD hS 0 rfl rfl 4 (by decide) (hts _ w_135) (fun _ h9 => h9) rfl (by decide +kernel) rfl rfl (Nat.le_of_ble_eq_true rfl) d_Meeting_fill_159 (fun H locs hP hD hS => ?_)
          have hP : va_P D vwCl [(q, .inr (2, [.int nu, .int 1, .long (m_abs (m_side w ra.1 ra.2.1)), .long (m_abs (m_rside ra w.1 w.2.1)), .long (m_abs ((m_rside ra w.2.2.1 w.2.2.2) - (m_rside ra w.1 w.2.1)))])), (q2, .inr (0, [.int w.1, .int w.2.1, .int w.2.2.1, .int w.2.2.2])), (q3, .inr (1, [.int ra.1, .int ra.2.1, .int ra.2.2.1, .int ra.2.2.2]))] H := hP
          have hD : va_D A [(q, .inr (2, [.int nu, .int 1, .long (m_abs (m_side w ra.1 ra.2.1)), .long (m_abs (m_rside ra w.1 w.2.1)), .long (m_abs ((m_rside ra w.2.2.1 w.2.2.2) - (m_rside ra w.1 w.2.1)))])), (q2, .inr (0, [.int w.1, .int w.2.1, .int w.2.2.1, .int w.2.2.2])), (q3, .inr (1, [.int ra.1, .int ra.2.1, .int ra.2.2.1, .int ra.2.2.2]))] := hD
          refine lv_iconst (v := 1) hx hb d_Meeting_fill_162 (by decide) ?_
          exact W.zret (v := 1) (ty := .boolean) hx hb hr rfl (fun t ht hW => ⟨⟨_, _, rfl, ⟨rf_T hmet, fun _ => by rw [show m_fr w ra = 1 from (if_pos (Int64.not_le.mp c_16))]; first | done | rfl, fun h => absurd hmet h⟩, by rw [ht]; exact hP, hD⟩, hS.F ht⟩) hS.2.2 d_Meeting_fill_163
  · refine lv_lload hx hb d_Meeting_fill_28 (lv_at hl 1 rfl) ?_
    refine lv_lconst (v := 0) hx hb d_Meeting_fill_30 (by decide) ?_
    refine rf_lcmp_ge (tgt := 39) hx hb d_Meeting_fill_31 d_Meeting_fill_32 (by decide) (fun c_17 => ?_) (fun c_17 => ?_)
    · refine lv_iconst (v := 0) hx hb d_Meeting_fill_39 (by decide) ?_
      refine lv_lload hx hb d_Meeting_fill_40 (lv_at hl 0 rfl) ?_
      refine lv_lconst (v := 0) hx hb d_Meeting_fill_42 (by decide) ?_
      refine rf_lcmp_ge (tgt := 51) hx hb d_Meeting_fill_43 d_Meeting_fill_44 (by decide) (fun c_18 => ?_) (fun c_18 => ?_)
      · refine lv_iconst (v := 0) hx hb d_Meeting_fill_51 (by decide) ?_
        refine lv_icmp_ne (tgt := 57) hx hb d_Meeting_fill_52 (by decide) (fun c_19 => absurd rfl c_19) (fun c_19 => ?_)
        refine lv_iconst (v := 0) hx hb d_Meeting_fill_55 (by decide) ?_
        exact W.zret (v := 0) (ty := .boolean) hx hb hr rfl (fun t ht hW => ⟨⟨_, _, rfl, ⟨rf_F (fun h => h.1 ⟨fun z => absurd z (Int64.not_lt.mpr c_17), fun z => absurd z (Int64.not_lt.mpr c_18)⟩), fun h => absurd h (fun h => h.1 ⟨fun z => absurd z (Int64.not_lt.mpr c_17), fun z => absurd z (Int64.not_lt.mpr c_18)⟩), fun _ => rfl⟩, by rw [ht]; exact hP, hD⟩, hS.F ht⟩) hS.2.2 d_Meeting_fill_56
      · refine lv_iconst (v := 1) hx hb d_Meeting_fill_47 (by decide) ?_
        refine lv_goto (tgt := 52) hx hb d_Meeting_fill_48 (by decide) ?_
        refine lv_icmp_ne (tgt := 57) hx hb d_Meeting_fill_52 (by decide) (fun c_20 => ?_) (fun c_20 => absurd c_20 (by decide))
        exact J57 (fun h => (Int64.not_lt.mpr c_17) (h.mpr (Int64.not_le.mp c_18)))
    · refine lv_iconst (v := 1) hx hb d_Meeting_fill_35 (by decide) ?_
      refine lv_goto (tgt := 40) hx hb d_Meeting_fill_36 (by decide) ?_
      refine lv_lload hx hb d_Meeting_fill_40 (lv_at hl 0 rfl) ?_
      refine lv_lconst (v := 0) hx hb d_Meeting_fill_42 (by decide) ?_
      refine rf_lcmp_ge (tgt := 51) hx hb d_Meeting_fill_43 d_Meeting_fill_44 (by decide) (fun c_21 => ?_) (fun c_21 => ?_)
      · refine lv_iconst (v := 0) hx hb d_Meeting_fill_51 (by decide) ?_
        refine lv_icmp_ne (tgt := 57) hx hb d_Meeting_fill_52 (by decide) (fun c_22 => ?_) (fun c_22 => absurd c_22 (by decide))
        exact J57 (fun h => (Int64.not_lt.mpr c_21) (h.mp (Int64.not_le.mp c_17)))
      · refine lv_iconst (v := 1) hx hb d_Meeting_fill_47 (by decide) ?_
        refine lv_goto (tgt := 52) hx hb d_Meeting_fill_48 (by decide) ?_
        refine lv_icmp_ne (tgt := 57) hx hb d_Meeting_fill_52 (by decide) (fun c_23 => absurd rfl c_23) (fun c_23 => ?_)
        refine lv_iconst (v := 0) hx hb d_Meeting_fill_55 (by decide) ?_
        exact W.zret (v := 0) (ty := .boolean) hx hb hr rfl (fun t ht hW => ⟨⟨_, _, rfl, ⟨rf_F (fun h => h.1 ⟨fun _ => (Int64.not_le.mp c_21), fun _ => (Int64.not_le.mp c_17)⟩), fun h => absurd h (fun h => h.1 ⟨fun _ => (Int64.not_le.mp c_21), fun _ => (Int64.not_le.mp c_17)⟩), fun _ => rfl⟩, by rw [ht]; exact hP, hD⟩, hS.F ht⟩) hS.2.2 d_Meeting_fill_56
end
section
set_option maxHeartbeats 4000000 in
set_option maxRecDepth 100000 in
theorem c_RF_sortIn (l : Launch) (D : va_G) (x wa ma : Nat) (wc mc : Int32) (ry : Option Nat) (cW cM : ClassId) (wf mf : Nat → Option Nat) (L : List Nat) (f : Nat → va_E) (n : Nat) (hn : n < 64) (wl : Nat → Option Q4) (ra : Q4) (g : Nat → Nat) (hM : rf_meets L f mf wl ra n g) (k : Nat) (w : Q4) (hwk : wl k = some w) (qm : Nat) (hq : qm ∈ L) (hqf : f qm = e_Mw k w ra) (sz : Nat) : Met l y_RF_sortIn (.code y_RF_sortIn b_RF_sortIn 4 none :: BIG) { frames := 1, cells := 0, slots := 0, locals := 40 } (rf_Pc D (x_t cW cM) [.ref x, .ref qm] (fun h => h.size = sz ∧ va_P D vwCl (x_3 x wa ma wc (nI n) ry cW cM wf mf ++ va_pl L f) h ∧ va_D (fun _ => True) (x_3 x wa ma wc (nI n) ry cW cM wf mf ++ va_pl L f))) (va_Qv (S := Nat × (Nat → Option Nat)) (fun u => g_pos (rf_nr wl ra) k g n u.1 ∧ u.2 = rf_mins mf (some qm) n u.1) (fun u t => va_P D vwCl (x_3 x wa ma wc (nI (n + 1)) ry cW cM wf u.2 ++ va_pl L f) t.heap ∧ va_D (va_A (x_3 x wa ma wc (nI n) ry cW cM wf mf ++ va_pl L f) sz) (x_3 x wa ma wc (nI (n + 1)) ry cW cM wf u.2 ++ va_pl L f)) (va_A (x_3 x wa ma wc (nI n) ry cW cM wf mf ++ va_pl L f) sz)) 0 0 (va_A (x_3 x wa ma wc (nI n) ry cW cM wf mf ++ va_pl L f) sz) := by
  refine Met.ofW (cc := b_RF_sortIn) (maxL := 4) (ret := none) (by decide) rfl ?_
  intro p e s m args below meth c s₁ B hml hv
  obtain ⟨rfl, hE, hP⟩ := hv
  have hx := B.exec
  have hb := B.bytes
  have hr := B.returns
  have hts : ∀ w ∈ BIG, w.before [.ref x, .ref qm].toArray s = true := fun w h => atoms_spec (ws := .code y_RF_sortIn b_RF_sortIn 4 none :: BIG) B.pre w (List.mem_cons_of_mem _ h)
  have hown : s.vm.findClass "RayField" = some m.cls := findClass_of_methodNamed B.named
  have hlocks := B.notSynchronized
  have hK := hE.2
  have S0 : CallFix p m c b_RF_sortIn 4 s [.ref x, .ref qm].toArray BIG "RayField" := ⟨hx, hb, hml, hown, hts⟩
  have hl := lv_entry ([.ref x, .ref qm]) (n := 4) (Nat.le_of_ble_eq_true rfl)
  rw [lg_entry_eq]
  generalize (lg_sl ([.ref x, .ref qm]) ++ List.replicate (4 - (lg_sl ([.ref x, .ref qm])).length) Slot.unset).toArray = ls at hl ⊢
  have hl : lv_has ls 4 [(0, .ref x), (1, .ref qm)] := hl
  obtain ⟨hsz, hP, hD0⟩ := hP
  subst hsz
  have hD := hD0.self (sz := s.heap.size)
  generalize hAe : va_A (x_3 x wa ma wc (nI n) ry cW cM wf mf ++ va_pl L f) s.heap.size = A at hD ⊢
  have hA : ∀ q : Nat, s.heap.size ≤ q → A q := fun q h => by rw [← hAe]; exact Or.inr h
  obtain ⟨H, hH⟩ : ∃ H : Heap, H = s.heap := ⟨_, rfl⟩
  refine rf_heap hH ?_
  have hS : va_S A s.heap H [] := by rw [hH]; exact va_S.rf
  have hP : va_P D vwCl (x_3 x wa ma wc (nI n) ry cW cM wf mf ++ va_pl L f) H := by rw [hH]; exact hP
  have hPq := rf_pl hP hq hqf
  refine lv_aload_n hx hb d_RF_sortIn_0 rfl (lv_at hl 0 rfl) ?_
  refine va_get (D := D) (ci := 3) (v := .int (nI n)) (C := "RayField") (T := F_RF) (N := 5) hx hb hts in_RF hown hK hP 0 rfl rfl 4 (by decide) (hts _ w_23) (fun _ h9 => h9) rfl d_RF_sortIn_1 ?_
  refine lv_istore_n (lv' := [(2, .int (nI n)), (0, .ref x), (1, .ref qm)]) hx hb d_RF_sortIn_4 rfl hl (by decide) rfl (fun ls hl => ?_)
  refine rf_loopD 5 (fun a ls H locs => lv_has ls 4 [(2, .int (nI a)), (0, .ref x), (1, .ref qm)] ∧ va_P D vwCl (x_3 x wa ma wc (nI n) ry cW cM wf (rf_shift mf n a) ++ va_pl L f) H ∧ va_D A (x_3 x wa ma wc (nI n) ry cW cM wf (rf_shift mf n a) ++ va_pl L f) ∧ va_S A s.heap H locs ∧ a ≤ n ∧ (∀ j, a ≤ j → j < n → rf_nr wl ra k (g j))) (fun ls H locs hI => ?_) (fun a ls H locs hI hk => ?_) n ⟨lv_sub hl [0, 1, 2] rfl, by rw [rf_shift_n]; exact hP, by rw [rf_shift_n]; exact hD, hS, Nat.le_refl n, fun j h1 h2 => absurd h2 (Nat.not_lt.mpr h1)⟩
  · obtain ⟨hl, hP, hD, hS, hle, hJ⟩ := hI
    have hPq := rf_pl hP hq hqf
    refine lv_iload_n hx hb d_RF_sortIn_5 rfl (lv_at hl 0 rfl) ?_
    refine lv_if_le (tgt := 46) hx hb d_RF_sortIn_6 (by decide) (fun c_1 => ?_) (fun c_1 => absurd (by decide) c_1)
    refine lv_aload_n hx hb d_RF_sortIn_46 rfl (lv_at hl 1 rfl) ?_
    refine va_get (D := D) (ci := 3) (v := .ref ma) (C := "RayField") (T := F_RF) (N := 5) hx hb hts in_RF hown hK hP 0 rfl rfl 3 (by decide) (hts _ w_22) (fun _ h9 => h9) rfl d_RF_sortIn_47 ?_
    refine lv_iload_n hx hb d_RF_sortIn_50 rfl (lv_at hl 0 rfl) ?_
    refine lv_aload_n hx hb d_RF_sortIn_51 rfl (lv_at hl 2 rfl) ?_
    obtain ⟨k_2, hk_3⟩ := va_pl_get (X := x_3 x wa ma wc (nI n) ry cW cM wf (rf_shift mf n 0)) (f := f) hq
    rw [hqf] at hk_3
    refine rf_astq (r := ("RayField$Meeting", F_Meeting, 5)) hx hb hK hP hD hS 2 1 k_2 2 rfl rfl hk_3 rfl (show 0 < 64 by omega) (by decide) d_RF_sortIn_52 (fun H locs hP hD hS => ?_)
    have hP : va_P D vwCl (x_3 x wa ma wc (nI n) ry cW cM wf (rf_mins mf (some qm) n 0) ++ va_pl L f) H := by rw [← rf_shift_e mf (some qm) n 0]; exact hP
    have hD : va_D A (x_3 x wa ma wc (nI n) ry cW cM wf (rf_mins mf (some qm) n 0) ++ va_pl L f) := by rw [← rf_shift_e mf (some qm) n 0]; exact hD
    refine lv_aload_n hx hb d_RF_sortIn_53 rfl (lv_at hl 1 rfl) ?_
    refine lv_dup hx hb d_RF_sortIn_54 rfl ?_
    refine va_get (D := D) (ci := 3) (v := .int (nI n)) (C := "RayField") (T := F_RF) (N := 5) hx hb hts in_RF hown hK hP 0 rfl rfl 4 (by decide) (hts _ w_23) (fun _ h9 => h9) rfl d_RF_sortIn_55 ?_
    refine lv_iconst (v := 1) hx hb d_RF_sortIn_58 (by decide) ?_
    refine lv_iadd hx hb d_RF_sortIn_59 ?_
    refine rf_topi (nI_1 n) ?_
    refine va_put (D := D) (ci := 3) (v := .int (nI (n + 1))) (ty := .int) (C := "RayField") (T := F_RF) (N := 5) hx hb hts in_RF t_RF tok_RF nn_RF hown hK hP hD hS 0 rfl rfl 4 (by decide) (hts _ w_23) (fun _ h9 => h9) rfl (by decide +kernel) rfl rfl (Nat.le_of_ble_eq_true rfl) d_RF_sortIn_60 (fun H locs hP hD hS => ?_)
    have hP : va_P D vwCl (x_3 x wa ma wc (nI (n + 1)) ry cW cM wf (rf_mins mf (some qm) n 0) ++ va_pl L f) H := hP
    have hD : va_D A (x_3 x wa ma wc (nI (n + 1)) ry cW cM wf (rf_mins mf (some qm) n 0) ++ va_pl L f) := hD
    exact W.vret hx hb hr (fun t ht hW => ⟨⟨(0, rf_mins mf (some qm) n 0), rfl, ⟨⟨Nat.zero_le n, hJ, fun h => absurd h (Nat.lt_irrefl 0)⟩, rfl⟩, by rw [ht]; exact hP, hD⟩, hS.F ht⟩) hS.2.2 d_RF_sortIn_63
  · obtain ⟨hl, hP, hD, hS, hle, hJ⟩ := hI
    have hPq := rf_pl hP hq hqf
    refine lv_iload_n hx hb d_RF_sortIn_5 rfl (lv_at hl 0 rfl) ?_
    refine lv_if_le (tgt := 46) hx hb d_RF_sortIn_6 (by decide) (fun c_4 => absurd c_4 (nI_nle (Nat.succ_pos a) (by omega))) (fun c_4 => ?_)
    refine lv_aload_n hx hb d_RF_sortIn_9 rfl (lv_at hl 1 rfl) ?_
    refine va_get (D := D) (ci := 3) (v := .ref ma) (C := "RayField") (T := F_RF) (N := 5) hx hb hts in_RF hown hK hP 0 rfl rfl 3 (by decide) (hts _ w_22) (fun _ h9 => h9) rfl d_RF_sortIn_10 ?_
    refine lv_iload_n hx hb d_RF_sortIn_13 rfl (lv_at hl 0 rfl) ?_
    refine lv_iconst (v := 1) hx hb d_RF_sortIn_14 (by decide) ?_
    refine lv_isub hx hb d_RF_sortIn_15 ?_
    refine rf_topi (nI_pred a) ?_
    refine rf_aldq hx hb hK hP 2 1 rfl rfl (show a < 64 by omega) (by decide) d_RF_sortIn_16 ?_
    rw [rf_shift_at]
    obtain ⟨qb, wv, b1, b2, b3, b4⟩ := hM a (by omega)
    rw [b1]
    have hPb := rf_pl hP b2 b4
    refine W.eq (g2 := F0 m 17 ls [.ref qb]) rfl ?_
    refine lv_astore_n (lv' := [(3, .ref qb), (2, .int (nI (a + 1))), (0, .ref x), (1, .ref qm)]) hx hb d_RF_sortIn_17 rfl hl (by decide) rfl (fun ls hl => ?_)
    refine lv_aload_n hx hb d_RF_sortIn_18 rfl (lv_at hl 0 rfl) ?_
    refine lv_ifnull hx hb d_RF_sortIn_19 ?_
    refine lv_aload_n hx hb d_RF_sortIn_22 rfl (lv_at hl 3 rfl) ?_
    refine lv_aload_n hx hb d_RF_sortIn_23 rfl (lv_at hl 0 rfl) ?_
    refine vp_callSi (va_Run.run (rf_runV (As := [.ref qb]) (rest := []) S0 ml_RF_131 (c_Meeting_isNearer l D (x_t cW cM) qm qb (nI k) (m_fr w ra) (nI (g a)) (m_fr wv ra) (m_abs (m_p w ra)) (m_abs (m_a w ra)) (m_abs (m_q w ra)) (m_abs (m_p wv ra)) (m_abs (m_a wv ra)) (m_abs (m_q wv ra))) hE (va_recv hK hPq (ci := 2) (q0 := 0) rfl rfl) (va_P.app hPq hPb) ⟨rfl, rfl, Nat.le_of_ble_eq_true rfl, Nat.le_of_ble_eq_true rfl⟩ rfl hl.1 rfl (Nat.le_of_ble_eq_true rfl) d_RF_sortIn_24 ⟨Nat.zero_le _, Nat.zero_le _⟩)) (fun r_5 h_6 => ?_)
    refine lv_if_ne (tgt := 33) hx hb d_RF_sortIn_27 (by decide) (fun c_7 => ?_) (fun c_7 => ?_)
    · refine lv_aload_n hx hb d_RF_sortIn_33 rfl (lv_at hl 2 rfl) ?_
      refine va_get (D := D) (ci := 3) (v := .ref ma) (C := "RayField") (T := F_RF) (N := 5) hx hb hts in_RF hown hK hP 0 rfl rfl 3 (by decide) (hts _ w_22) (fun _ h9 => h9) rfl d_RF_sortIn_34 ?_
      refine lv_iload_n hx hb d_RF_sortIn_37 rfl (lv_at hl 1 rfl) ?_
      refine lv_aload_n hx hb d_RF_sortIn_38 rfl (lv_at hl 0 rfl) ?_
      obtain ⟨k_8, hk_9⟩ := va_pl_get (X := x_3 x wa ma wc (nI n) ry cW cM wf (rf_shift mf n (a + 1))) (f := f) b2
      rw [b4] at hk_9
      refine rf_astq (r := ("RayField$Meeting", F_Meeting, 5)) hx hb hK hP hD hS 2 1 k_8 2 rfl rfl hk_9 rfl (show (a + 1) < 64 by omega) (by decide) d_RF_sortIn_39 (fun H locs hP hD hS => ?_)
      rw [← b1] at hP hD
      have hP : va_P D vwCl (x_3 x wa ma wc (nI n) ry cW cM wf (rf_shift mf n a) ++ va_pl L f) H := by rw [← rf_shift_s mf n a hle]; exact hP
      have hD : va_D A (x_3 x wa ma wc (nI n) ry cW cM wf (rf_shift mf n a) ++ va_pl L f) := by rw [← rf_shift_s mf n a hle]; exact hD
      refine lv_iinc (v := (nI a)) (lv' := [(2, .int (nI a)), (3, .ref qb), (0, .ref x), (1, .ref qm)]) hx hb d_RF_sortIn_40 hl (k := 1) rfl (pk_m1 a) (by decide) rfl (fun ls hl => ?_)
      refine lv_goto (tgt := 5) hx hb d_RF_sortIn_43 (by decide) ?_
      have hJ2 : ∀ j, a ≤ j → j < n → rf_nr wl ra k (g j) := by
        intro j h1 h2
        rcases Nat.lt_or_ge a j with q | q
        · exact hJ j q h2
        · have e : j = a := by omega
          subst e
          exact ⟨_, _, hwk, b3, (h_6.t c_7)⟩
      exact hk _ _ _ ⟨lv_sub hl [0, 2, 3] rfl, hP, hD, hS, by omega, hJ2⟩
    · refine lv_goto (tgt := 46) hx hb d_RF_sortIn_30 (by decide) ?_
      refine lv_aload_n hx hb d_RF_sortIn_46 rfl (lv_at hl 2 rfl) ?_
      refine va_get (D := D) (ci := 3) (v := .ref ma) (C := "RayField") (T := F_RF) (N := 5) hx hb hts in_RF hown hK hP 0 rfl rfl 3 (by decide) (hts _ w_22) (fun _ h9 => h9) rfl d_RF_sortIn_47 ?_
      refine lv_iload_n hx hb d_RF_sortIn_50 rfl (lv_at hl 1 rfl) ?_
      refine lv_aload_n hx hb d_RF_sortIn_51 rfl (lv_at hl 3 rfl) ?_
      obtain ⟨k_10, hk_11⟩ := va_pl_get (X := x_3 x wa ma wc (nI n) ry cW cM wf (rf_shift mf n (a + 1))) (f := f) hq
      rw [hqf] at hk_11
      refine rf_astq (r := ("RayField$Meeting", F_Meeting, 5)) hx hb hK hP hD hS 2 1 k_10 2 rfl rfl hk_11 rfl (show (a + 1) < 64 by omega) (by decide) d_RF_sortIn_52 (fun H locs hP hD hS => ?_)
      have hP : va_P D vwCl (x_3 x wa ma wc (nI n) ry cW cM wf (rf_mins mf (some qm) n (a + 1)) ++ va_pl L f) H := by rw [← rf_shift_e mf (some qm) n (a + 1)]; exact hP
      have hD : va_D A (x_3 x wa ma wc (nI n) ry cW cM wf (rf_mins mf (some qm) n (a + 1)) ++ va_pl L f) := by rw [← rf_shift_e mf (some qm) n (a + 1)]; exact hD
      refine lv_aload_n hx hb d_RF_sortIn_53 rfl (lv_at hl 2 rfl) ?_
      refine lv_dup hx hb d_RF_sortIn_54 rfl ?_
      refine va_get (D := D) (ci := 3) (v := .int (nI n)) (C := "RayField") (T := F_RF) (N := 5) hx hb hts in_RF hown hK hP 0 rfl rfl 4 (by decide) (hts _ w_23) (fun _ h9 => h9) rfl d_RF_sortIn_55 ?_
      refine lv_iconst (v := 1) hx hb d_RF_sortIn_58 (by decide) ?_
      refine lv_iadd hx hb d_RF_sortIn_59 ?_
      refine rf_topi (nI_1 n) ?_
      refine va_put (D := D) (ci := 3) (v := .int (nI (n + 1))) (ty := .int) (C := "RayField") (T := F_RF) (N := 5) hx hb hts in_RF t_RF tok_RF nn_RF hown hK hP hD hS 0 rfl rfl 4 (by decide) (hts _ w_23) (fun _ h9 => h9) rfl (by decide +kernel) rfl rfl (Nat.le_of_ble_eq_true rfl) d_RF_sortIn_60 (fun H locs hP hD hS => ?_)
      have hP : va_P D vwCl (x_3 x wa ma wc (nI (n + 1)) ry cW cM wf (rf_mins mf (some qm) n (a + 1)) ++ va_pl L f) H := hP
      have hD : va_D A (x_3 x wa ma wc (nI (n + 1)) ry cW cM wf (rf_mins mf (some qm) n (a + 1)) ++ va_pl L f) := hD
      exact W.vret hx hb hr (fun t ht hW => ⟨⟨((a + 1), rf_mins mf (some qm) n (a + 1)), rfl, ⟨⟨hle, hJ, fun _ => rf_nr.no hwk b3 (h_6.f c_7)⟩, rfl⟩, by rw [ht]; exact hP, hD⟩, hS.F ht⟩) hS.2.2 d_RF_sortIn_63
end
section
set_option maxHeartbeats 4000000 in
set_option maxRecDepth 100000 in
theorem c_RF_meetOne (l : Launch) (D : va_G) (x wa ma : Nat) (wc mc : Int32) (ry : Option Nat) (cW cM : ClassId) (wf mf : Nat → Option Nat) (L : List Nat) (f : Nat → va_E) (n : Nat) (hn : n < 64) (wl : Nat → Option Q4) (ra : Q4) (g : Nat → Nat) (hM : rf_meets L f mf wl ra n g) (hmp : rf_mpool L f mf) (k : Nat) (w : Q4) (hwk : wl k = some w) (qw qr : Nat) (hqw : qw ∈ L) (hqwf : f qw = e_W w) (hqr : qr ∈ L) (hqrf : f qr = e_R ra) (sz : Nat) : Met l y_RF_meetOne (.code y_RF_meetOne b_RF_meetOne 5 none :: BIG) { frames := 3, cells := 1, slots := 5, locals := 120 } (rf_Pc D (x_t cW cM) [.ref x, .int (nI k), .ref qw, .ref qr] (fun h => h.size = sz ∧ va_P D vwCl (x_3 x wa ma wc (nI n) ry cW cM wf mf ++ va_pl L f) h ∧ va_D (fun _ => True) (x_3 x wa ma wc (nI n) ry cW cM wf mf ++ va_pl L f))) (va_Qv (S := List Nat × (Nat → va_E) × (Nat → Option Nat) × Nat × (Nat → Nat)) (fun u => rf_keep L f u.1 u.2.1 ∧ rf_mpool u.1 u.2.1 u.2.2.1 ∧ rf_meets u.1 u.2.1 u.2.2.1 wl ra u.2.2.2.1 u.2.2.2.2 ∧ ((¬ m_met w ra ∧ u.2.2.2.1 = n ∧ u.2.2.2.2 = g) ∨ (m_met w ra ∧ u.2.2.2.1 = n + 1 ∧ ∃ p, g_pos (rf_nr wl ra) k g n p ∧ ∀ j, j < n + 1 → u.2.2.2.2 j = g_ins g p k j))) (fun u t => va_P D vwCl (x_3 x wa ma wc (nI u.2.2.2.1) ry cW cM wf u.2.2.1 ++ va_pl u.1 u.2.1) t.heap ∧ va_D (va_A (x_3 x wa ma wc (nI n) ry cW cM wf mf ++ va_pl L f) sz) (x_3 x wa ma wc (nI u.2.2.2.1) ry cW cM wf u.2.2.1 ++ va_pl u.1 u.2.1)) (va_A (x_3 x wa ma wc (nI n) ry cW cM wf mf ++ va_pl L f) sz)) 1 5 (va_A (x_3 x wa ma wc (nI n) ry cW cM wf mf ++ va_pl L f) sz) := by
  refine Met.ofW (cc := b_RF_meetOne) (maxL := 5) (ret := none) (by decide) rfl ?_
  intro p e s m args below meth c s₁ B hml hv
  obtain ⟨rfl, hE, hP⟩ := hv
  have hx := B.exec
  have hb := B.bytes
  have hr := B.returns
  have hts : ∀ w ∈ BIG, w.before [.ref x, .int (nI k), .ref qw, .ref qr].toArray s = true := fun w h => atoms_spec (ws := .code y_RF_meetOne b_RF_meetOne 5 none :: BIG) B.pre w (List.mem_cons_of_mem _ h)
  have hown : s.vm.findClass "RayField" = some m.cls := findClass_of_methodNamed B.named
  have hlocks := B.notSynchronized
  have hK := hE.2
  have S0 : CallFix p m c b_RF_meetOne 5 s [.ref x, .int (nI k), .ref qw, .ref qr].toArray BIG "RayField" := ⟨hx, hb, hml, hown, hts⟩
  have hl := lv_entry ([.ref x, .int (nI k), .ref qw, .ref qr]) (n := 5) (Nat.le_of_ble_eq_true rfl)
  rw [lg_entry_eq]
  generalize (lg_sl ([.ref x, .int (nI k), .ref qw, .ref qr]) ++ List.replicate (5 - (lg_sl ([.ref x, .int (nI k), .ref qw, .ref qr])).length) Slot.unset).toArray = ls at hl ⊢
  have hl : lv_has ls 5 [(0, .ref x), (1, .int (nI k)), (2, .ref qw), (3, .ref qr)] := hl
  obtain ⟨hsz, hP, hD0⟩ := hP
  subst hsz
  have hD := hD0.self (sz := s.heap.size)
  generalize hAe : va_A (x_3 x wa ma wc (nI n) ry cW cM wf mf ++ va_pl L f) s.heap.size = A at hD ⊢
  have hA : ∀ q : Nat, s.heap.size ≤ q → A q := fun q h => by rw [← hAe]; exact Or.inr h
  obtain ⟨H, hH⟩ : ∃ H : Heap, H = s.heap := ⟨_, rfl⟩
  refine rf_heap hH ?_
  have hS : va_S A s.heap H [] := by rw [hH]; exact va_S.rf
  have hP : va_P D vwCl (x_3 x wa ma wc (nI n) ry cW cM wf mf ++ va_pl L f) H := by rw [hH]; exact hP
  refine lv_aload_n hx hb d_RF_meetOne_0 rfl (lv_at hl 0 rfl) ?_
  refine va_get (D := D) (ci := 3) (v := .ref ma) (C := "RayField") (T := F_RF) (N := 5) hx hb hts in_RF hown hK hP 0 rfl rfl 3 (by decide) (hts _ w_22) (fun _ h9 => h9) rfl d_RF_meetOne_1 ?_
  refine lv_aload_n hx hb d_RF_meetOne_4 rfl (lv_at hl 0 rfl) ?_
  refine va_get (D := D) (ci := 3) (v := .int (nI n)) (C := "RayField") (T := F_RF) (N := 5) hx hb hts in_RF hown hK hP 0 rfl rfl 4 (by decide) (hts _ w_23) (fun _ h9 => h9) rfl d_RF_meetOne_5 ?_
  refine rf_aldq hx hb hK hP 2 1 rfl rfl hn (by decide) d_RF_meetOne_8 ?_
  refine rf_topq (fun e_1 => ?_) (fun q_2 e_1 => ?_)
  · refine lv_astoreN (lv' := [(4, .null), (0, .ref x), (1, .int (nI k)), (2, .ref qw), (3, .ref qr)]) hx hb d_RF_meetOne_9 hl (by decide) rfl (fun ls hl => ?_)
    refine lv_aloadN hx hb d_RF_meetOne_11 (lv_at hl 0 rfl) ?_
    refine lv_ifnonnullN hx hb d_RF_meetOne_13 ?_
    refine va_new (ci := 2) (fs := [.int 0, .int 0, .long 0, .long 0, .long 0]) (C := "RayField$Meeting") (T := F_Meeting) (N := 5) hx hb hts in_Meeting t_Meeting tok_Meeting hown (hts _ w_17) (hts _ w_122) (hts _ w_5) hK hP hD hS hA rfl (fun j hj => by rcases (show j = 0 ∨ j = 1 ∨ j = 2 ∨ j = 3 ∨ j = 4 by omega) with rfl | rfl | rfl | rfl | rfl <;> rfl) (Nat.le_of_ble_eq_true rfl) (Nat.le_of_ble_eq_true rfl) d_RF_meetOne_16 (fun qn H hP hD hS => ?_)
    obtain ⟨hqn, hP, hD⟩ := rf_push hP hD
    refine W.widen (k := 1) (n := 5) (by omega) (by omega) ?_
    have hP : va_P D vwCl (x_3 x wa ma wc (nI n) ry cW cM wf mf ++ va_pl (L ++ [qn]) (va_up f qn (e_M 0 0 0 0 0))) H := hP
    have hD : va_D A (x_3 x wa ma wc (nI n) ry cW cM wf mf ++ va_pl (L ++ [qn]) (va_up f qn (e_M 0 0 0 0 0))) := hD
    have hqm : qn ∈ L ++ [qn] := List.mem_append_right _ (List.mem_singleton.mpr rfl)
    have hqmf : va_up f qn (e_M 0 0 0 0 0) qn = e_M 0 0 0 0 0 := va_up_self _ _ _
    refine lv_dup hx hb d_RF_meetOne_19 rfl ?_
    have hFc := rf_poolfree (wc := [(qn, (e_M 0 0 0 0 0))]) hD hS hA (rf_mem1 hqm)
    refine va_callv (rf_runIN (As := []) (rest := [.ref qn]) S0 ml_RF_122 (c_Meeting_init l D (x_t cW cM) qn H.size) hE ⟨rfl, rf_pl hP hqm hqmf, rf_D1⟩ ⟨rfl, rfl, Nat.le_of_ble_eq_true rfl, Nat.le_of_ble_eq_true rfl⟩ rfl hl.1 rfl (Nat.le_of_ble_eq_true rfl) d_RF_meetOne_20 ⟨Nat.le_of_ble_eq_true rfl, Nat.le_of_ble_eq_true rfl⟩) hS (fun q _ h => hFc q h) hFc (fun u0 t H1 locs ht hvm hw0 hB hz1 hk1 hS => ?_)
    obtain ⟨hP1, hD1⟩ := hB
    rw [ht] at hP1
    obtain ⟨hP, hD⟩ := rf_pool1 (u := (e_M 0 0 0 0 0)) hP hD hqm hk1 hP1
    generalize H1 = H at hP hS ⊢
    rw [bx_uu] at hP hD
    refine W.widen (k := 1) (n := 5) (by omega) (by omega) ?_
    have hP : va_P D vwCl (x_3 x wa ma wc (nI n) ry cW cM wf mf ++ va_pl (L ++ [qn]) (va_up f qn (e_M 0 0 0 0 0))) H := hP
    have hD : va_D A (x_3 x wa ma wc (nI n) ry cW cM wf mf ++ va_pl (L ++ [qn]) (va_up f qn (e_M 0 0 0 0 0))) := hD
    refine lv_astore (lv' := [(4, .ref qn), (0, .ref x), (1, .int (nI k)), (2, .ref qw), (3, .ref qr)]) hx hb d_RF_meetOne_23 hl (by decide) rfl (fun ls hl => ?_)
    refine lv_aload_n hx hb d_RF_meetOne_25 rfl (lv_at hl 1 rfl) ?_
    refine va_get (D := D) (ci := 3) (v := .ref ma) (C := "RayField") (T := F_RF) (N := 5) hx hb hts in_RF hown hK hP 0 rfl rfl 3 (by decide) (hts _ w_22) (fun _ h9 => h9) rfl d_RF_meetOne_26 ?_
    refine lv_aload_n hx hb d_RF_meetOne_29 rfl (lv_at hl 1 rfl) ?_
    refine va_get (D := D) (ci := 3) (v := .int (nI n)) (C := "RayField") (T := F_RF) (N := 5) hx hb hts in_RF hown hK hP 0 rfl rfl 4 (by decide) (hts _ w_23) (fun _ h9 => h9) rfl d_RF_meetOne_30 ?_
    refine lv_aload hx hb d_RF_meetOne_33 (lv_at hl 0 rfl) ?_
    obtain ⟨kq, hkq⟩ := va_pl_get (X := x_3 x wa ma wc (nI n) ry cW cM wf mf) (f := va_up f qn (e_M 0 0 0 0 0)) hqm
    rw [hqmf] at hkq
    refine rf_astq (r := ("RayField$Meeting", F_Meeting, 5)) hx hb hK hP hD hS 2 1 kq 2 rfl rfl hkq rfl hn (by decide) d_RF_meetOne_35 (fun H locs hP hD hS => ?_)
    have hP : va_P D vwCl (x_3 x wa ma wc (nI n) ry cW cM wf (va_up mf n (some qn)) ++ va_pl (L ++ [qn]) (va_up f qn (e_M 0 0 0 0 0))) H := hP
    have hD : va_D A (x_3 x wa ma wc (nI n) ry cW cM wf (va_up mf n (some qn)) ++ va_pl (L ++ [qn]) (va_up f qn (e_M 0 0 0 0 0))) := hD
    have hkp : rf_keep L f (L ++ [qn]) (va_up f qn (e_M 0 0 0 0 0)) := rf_keep.new hqn
    have hqw1 := hkp.1 _ hqw
    have hqwf1 := hkp.2.1 _ _ hqw hqwf
    have hqr1 := hkp.1 _ hqr
    have hqrf1 := hkp.2.2 _ _ hqr hqrf
    have hmp1 : rf_mpool (L ++ [qn]) (va_up f qn (e_M 0 0 0 0 0)) (va_up mf n (some qn)) := hmp.new hqn e_1
    have hM1 : rf_meets (L ++ [qn]) (va_up f qn (e_M 0 0 0 0 0)) (va_up mf n (some qn)) wl ra n g := hM.new hqn
    have hmn : va_up mf n (some qn) n = some qn := va_up_self _ _ _
    refine lv_aload hx hb d_RF_meetOne_36 (lv_at hl 0 rfl) ?_
    refine lv_iload_n hx hb d_RF_meetOne_38 rfl (lv_at hl 2 rfl) ?_
    refine lv_aload_n hx hb d_RF_meetOne_39 rfl (lv_at hl 3 rfl) ?_
    refine lv_aload_n hx hb d_RF_meetOne_40 rfl (lv_at hl 4 rfl) ?_
    have hFc := rf_poolfree (wc := [(qn, e_M 0 0 0 0 0), (qw, e_W w), (qr, e_R ra)]) hD hS hA (rf_mem3 hqm hqw1 hqr1)
    refine va_calli (rf_runV (As := [.int (nI k), .ref qw, .ref qr]) (rest := []) S0 ml_RF_123 (c_Meeting_fill l D (x_t cW cM) qn qw qr 0 0 0 0 0 w ra (nI k) H.size) hE (va_recv hK (rf_pl hP hqm hqmf) (ci := 2) (q0 := 0) rfl rfl) ⟨rfl, rf_P3 (rf_pl hP hqm hqmf) (rf_pl hP hqw1 hqwf1) (rf_pl hP hqr1 hqrf1), rf_D3 (rf_neMW hqmf hqwf1) (rf_neMR hqmf hqrf1) (rf_neWR hqwf1 hqrf1)⟩ ⟨rfl, rfl, Nat.le_of_ble_eq_true rfl, Nat.le_of_ble_eq_true rfl⟩ rfl hl.1 rfl (Nat.le_of_ble_eq_true rfl) d_RF_meetOne_41 ⟨Nat.le_of_ble_eq_true rfl, Nat.le_of_ble_eq_true rfl⟩) hS (fun q _ h => hFc q h) hFc (fun r u t H1 locs ht hvm hw hB hz1 hk1 hS => ?_)
    obtain ⟨hP1, hD1⟩ := hB
    rw [ht] at hP1
    obtain ⟨hP, hD⟩ := rf_pool3 (u := u) hP hD hqm hqw1 hqr1 (rf_neMW hqmf hqwf1) (rf_neMR hqmf hqrf1) hqwf1 hqrf1 hk1 hP1
    generalize H1 = H at hP hS ⊢
    refine W.widen (k := 1) (n := 5) (by omega) (by omega) ?_
    have hP : va_P D vwCl (x_3 x wa ma wc (nI n) ry cW cM wf (va_up mf n (some qn)) ++ va_pl (L ++ [qn]) (va_up (va_up f qn (e_M 0 0 0 0 0)) qn u)) H := hP
    have hD : va_D A (x_3 x wa ma wc (nI n) ry cW cM wf (va_up mf n (some qn)) ++ va_pl (L ++ [qn]) (va_up (va_up f qn (e_M 0 0 0 0 0)) qn u)) := hD
    have hu := rf_isM hw.2.1 hw.2.2
    have hmp2 := hmp1.fill (q := qn) hu
    have hM2 := hM1.fill (u := u) hmp1 hn hmn
    have hkp2 := hkp.trans (rf_keep.fill (u := u) hqmf)
    refine lv_if_eq (tgt := 53) hx hb d_RF_meetOne_44 (by decide) (fun c_3 => ?_) (fun c_3 => ?_)
    · refine W.widen (k := 1) (n := 5) (by omega) (by omega) ?_
      exact W.vret hx hb hr (fun t ht hW => ⟨⟨((L ++ [qn]), (va_up (va_up f qn (e_M 0 0 0 0 0)) qn u), (va_up mf n (some qn)), n, g), rfl, ⟨hkp2, hmp2, hM2, Or.inl ⟨(hw.1.f c_3), rfl, rfl⟩⟩, by rw [ht]; exact hP, hD⟩, hS.F ht⟩) hS.2.2 d_RF_meetOne_53
    · refine lv_aload_n hx hb d_RF_meetOne_47 rfl (lv_at hl 1 rfl) ?_
      refine lv_aload hx hb d_RF_meetOne_48 (lv_at hl 0 rfl) ?_
      have hqf2 : (va_up (va_up f qn (e_M 0 0 0 0 0)) qn u) qn = e_Mw k w ra := by rw [va_up_self]; exact hw.2.1 (hw.1.t c_3)
      have hFc := rf_freeW hD hS hA
      refine va_callv (rf_runV (As := [.ref qn]) (rest := []) S0 ml_RF_127 (c_RF_sortIn l D x wa ma wc mc ry cW cM wf (va_up mf n (some qn)) (L ++ [qn]) (va_up (va_up f qn (e_M 0 0 0 0 0)) qn u) n hn wl ra g hM2 k w hwk qn hqm hqf2 H.size) hE (va_recv hK hP (ci := 3) (q0 := 0) rfl rfl) ⟨rfl, hP, hD.weaken (fun _ _ _ _ => trivial)⟩ ⟨rfl, rfl, Nat.le_of_ble_eq_true rfl, Nat.le_of_ble_eq_true rfl⟩ rfl hl.1 rfl (Nat.le_of_ble_eq_true rfl) d_RF_meetOne_50 ⟨Nat.le_of_ble_eq_true rfl, Nat.le_of_ble_eq_true rfl⟩) hS (fun q _ h => hFc q h) hFc (fun u2 t H1 locs ht hvm hw2 hB hz1 hk1 hS => ?_)
      obtain ⟨hP, hD1⟩ := hB
      rw [ht] at hP
      have hD := hD1.weaken (fun k q _ h => hFc q.1 h)
      generalize H1 = H at hP hS ⊢
      obtain ⟨pz, mf2⟩ := u2
      obtain ⟨hpos, hmf2⟩ := hw2
      dsimp only at hpos hmf2
      subst hmf2
      refine W.widen (k := 1) (n := 5) (by omega) (by omega) ?_
      have hP : va_P D vwCl (x_3 x wa ma wc (nI (n + 1)) ry cW cM wf (rf_mins (va_up mf n (some qn)) (some qn) n pz) ++ va_pl (L ++ [qn]) (va_up (va_up f qn (e_M 0 0 0 0 0)) qn u)) H := hP
      have hD : va_D A (x_3 x wa ma wc (nI (n + 1)) ry cW cM wf (rf_mins (va_up mf n (some qn)) (some qn) n pz) ++ va_pl (L ++ [qn]) (va_up (va_up f qn (e_M 0 0 0 0 0)) qn u)) := hD
      refine W.widen (k := 1) (n := 5) (by omega) (by omega) ?_
      exact W.vret hx hb hr (fun t ht hW => ⟨⟨((L ++ [qn]), (va_up (va_up f qn (e_M 0 0 0 0 0)) qn u), (rf_mins (va_up mf n (some qn)) (some qn) n pz), n + 1, g_ins g pz k), rfl, ⟨hkp2, hmp2.sort hn hpos.1 hmn, hM2.sort hqm hpos.1 hwk hqf2, Or.inr ⟨(hw.1.t c_3), rfl, pz, hpos, fun j _ => rfl⟩⟩, by rw [ht]; exact hP, hD⟩, hS.F ht⟩) hS.2.2 d_RF_meetOne_53
  · obtain ⟨hqm, n1, f1, d1, a1, v1, hqmf⟩ := hmp.1 n q_2 hn e_1
    refine W.widen (k := 1) (n := 5) (by omega) (by omega) ?_
    have hqw1 := hqw
    have hqwf1 := hqwf
    have hqr1 := hqr
    have hqrf1 := hqrf
    have hmp1 := hmp
    have hM1 := hM
    have hkp : rf_keep L f L f := rf_keep.rfl'
    have hmn := e_1
    refine lv_astore (lv' := [(4, .ref q_2), (0, .ref x), (1, .int (nI k)), (2, .ref qw), (3, .ref qr)]) hx hb d_RF_meetOne_9 hl (by decide) rfl (fun ls hl => ?_)
    refine lv_aload hx hb d_RF_meetOne_11 (lv_at hl 0 rfl) ?_
    refine lv_ifnonnull (tgt := 36) hx hb d_RF_meetOne_13 (by decide) ?_
    refine lv_aload hx hb d_RF_meetOne_36 (lv_at hl 0 rfl) ?_
    refine lv_iload_n hx hb d_RF_meetOne_38 rfl (lv_at hl 2 rfl) ?_
    refine lv_aload_n hx hb d_RF_meetOne_39 rfl (lv_at hl 3 rfl) ?_
    refine lv_aload_n hx hb d_RF_meetOne_40 rfl (lv_at hl 4 rfl) ?_
    have hFc := rf_poolfree (wc := [(q_2, e_M n1 f1 d1 a1 v1), (qw, e_W w), (qr, e_R ra)]) hD hS hA (rf_mem3 hqm hqw1 hqr1)
    refine va_calli (rf_runV (As := [.int (nI k), .ref qw, .ref qr]) (rest := []) S0 ml_RF_123 (c_Meeting_fill l D (x_t cW cM) q_2 qw qr n1 f1 d1 a1 v1 w ra (nI k) H.size) hE (va_recv hK (rf_pl hP hqm hqmf) (ci := 2) (q0 := 0) rfl rfl) ⟨rfl, rf_P3 (rf_pl hP hqm hqmf) (rf_pl hP hqw1 hqwf1) (rf_pl hP hqr1 hqrf1), rf_D3 (rf_neMW hqmf hqwf1) (rf_neMR hqmf hqrf1) (rf_neWR hqwf1 hqrf1)⟩ ⟨rfl, rfl, Nat.le_of_ble_eq_true rfl, Nat.le_of_ble_eq_true rfl⟩ rfl hl.1 rfl (Nat.le_of_ble_eq_true rfl) d_RF_meetOne_41 ⟨Nat.le_of_ble_eq_true rfl, Nat.le_of_ble_eq_true rfl⟩) hS (fun q _ h => hFc q h) hFc (fun r u t H1 locs ht hvm hw hB hz1 hk1 hS => ?_)
    obtain ⟨hP1, hD1⟩ := hB
    rw [ht] at hP1
    obtain ⟨hP, hD⟩ := rf_pool3 (u := u) hP hD hqm hqw1 hqr1 (rf_neMW hqmf hqwf1) (rf_neMR hqmf hqrf1) hqwf1 hqrf1 hk1 hP1
    generalize H1 = H at hP hS ⊢
    refine W.widen (k := 1) (n := 5) (by omega) (by omega) ?_
    have hP : va_P D vwCl (x_3 x wa ma wc (nI n) ry cW cM wf mf ++ va_pl L (va_up f q_2 u)) H := hP
    have hD : va_D A (x_3 x wa ma wc (nI n) ry cW cM wf mf ++ va_pl L (va_up f q_2 u)) := hD
    have hu := rf_isM hw.2.1 hw.2.2
    have hmp2 := hmp1.fill (q := q_2) hu
    have hM2 := hM1.fill (u := u) hmp1 hn hmn
    have hkp2 := hkp.trans (rf_keep.fill (u := u) hqmf)
    refine lv_if_eq (tgt := 53) hx hb d_RF_meetOne_44 (by decide) (fun c_4 => ?_) (fun c_4 => ?_)
    · refine W.widen (k := 1) (n := 5) (by omega) (by omega) ?_
      exact W.vret hx hb hr (fun t ht hW => ⟨⟨(L, (va_up f q_2 u), mf, n, g), rfl, ⟨hkp2, hmp2, hM2, Or.inl ⟨(hw.1.f c_4), rfl, rfl⟩⟩, by rw [ht]; exact hP, hD⟩, hS.F ht⟩) hS.2.2 d_RF_meetOne_53
    · refine lv_aload_n hx hb d_RF_meetOne_47 rfl (lv_at hl 1 rfl) ?_
      refine lv_aload hx hb d_RF_meetOne_48 (lv_at hl 0 rfl) ?_
      have hqf2 : (va_up f q_2 u) q_2 = e_Mw k w ra := by rw [va_up_self]; exact hw.2.1 (hw.1.t c_4)
      have hFc := rf_freeW hD hS hA
      refine va_callv (rf_runV (As := [.ref q_2]) (rest := []) S0 ml_RF_127 (c_RF_sortIn l D x wa ma wc mc ry cW cM wf mf L (va_up f q_2 u) n hn wl ra g hM2 k w hwk q_2 hqm hqf2 H.size) hE (va_recv hK hP (ci := 3) (q0 := 0) rfl rfl) ⟨rfl, hP, hD.weaken (fun _ _ _ _ => trivial)⟩ ⟨rfl, rfl, Nat.le_of_ble_eq_true rfl, Nat.le_of_ble_eq_true rfl⟩ rfl hl.1 rfl (Nat.le_of_ble_eq_true rfl) d_RF_meetOne_50 ⟨Nat.le_of_ble_eq_true rfl, Nat.le_of_ble_eq_true rfl⟩) hS (fun q _ h => hFc q h) hFc (fun u2 t H1 locs ht hvm hw2 hB hz1 hk1 hS => ?_)
      obtain ⟨hP, hD1⟩ := hB
      rw [ht] at hP
      have hD := hD1.weaken (fun k q _ h => hFc q.1 h)
      generalize H1 = H at hP hS ⊢
      obtain ⟨pz, mf2⟩ := u2
      obtain ⟨hpos, hmf2⟩ := hw2
      dsimp only at hpos hmf2
      subst hmf2
      refine W.widen (k := 1) (n := 5) (by omega) (by omega) ?_
      have hP : va_P D vwCl (x_3 x wa ma wc (nI (n + 1)) ry cW cM wf (rf_mins mf (some q_2) n pz) ++ va_pl L (va_up f q_2 u)) H := hP
      have hD : va_D A (x_3 x wa ma wc (nI (n + 1)) ry cW cM wf (rf_mins mf (some q_2) n pz) ++ va_pl L (va_up f q_2 u)) := hD
      refine W.widen (k := 1) (n := 5) (by omega) (by omega) ?_
      exact W.vret hx hb hr (fun t ht hW => ⟨⟨(L, (va_up f q_2 u), (rf_mins mf (some q_2) n pz), n + 1, g_ins g pz k), rfl, ⟨hkp2, hmp2.sort hn hpos.1 hmn, hM2.sort hqm hpos.1 hwk hqf2, Or.inr ⟨(hw.1.t c_4), rfl, pz, hpos, fun j _ => rfl⟩⟩, by rw [ht]; exact hP, hD⟩, hS.F ht⟩) hS.2.2 d_RF_meetOne_53
end
section
set_option maxHeartbeats 4000000 in
set_option maxRecDepth 100000 in
theorem c_RF_meetAgain (l : Launch) (D : va_G) (x wa ma : Nat) (wc mc : Int32) (ry : Option Nat) (cW cM : ClassId) (wf mf : Nat → Option Nat) (L : List Nat) (f : Nat → va_E) (wl : Nat → Option Q4) (ra : Q4) (hw : rf_walls L f wf wl) (hmp : rf_mpool L f mf) (hry : ∀ q, ry = some q → q ∈ L ∧ f q = e_R ra) (sz : Nat) : Met l y_RF_meetAgain (.code y_RF_meetAgain b_RF_meetAgain 4 none :: BIG) { frames := 4, cells := 64, slots := 320, locals := 160 } (rf_Pc D (x_t cW cM) [.ref x] (fun h => h.size = sz ∧ va_P D vwCl (x_3 x wa ma wc mc ry cW cM wf mf ++ va_pl L f) h ∧ va_D (fun _ => True) (x_3 x wa ma wc mc ry cW cM wf mf ++ va_pl L f))) (va_Qv (S := List Nat × (Nat → va_E) × (Nat → Option Nat) × Nat × (Nat → Nat)) (fun u => rf_keep L f u.1 u.2.1 ∧ rf_mpool u.1 u.2.1 u.2.2.1 ∧ u.2.2.2.1 ≤ 64 ∧ ((ry = none ∧ u.2.2.2.1 = 0) ∨ (∃ q, ry = some q ∧ rf_meets u.1 u.2.1 u.2.2.1 wl ra u.2.2.2.1 u.2.2.2.2 ∧ g_ok (rf_mt wl ra) (rf_nr wl ra) 64 u.2.2.2.1 u.2.2.2.2))) (fun u t => va_P D vwCl (x_3 x wa ma wc (nI u.2.2.2.1) ry cW cM wf u.2.2.1 ++ va_pl u.1 u.2.1) t.heap ∧ va_D (va_A (x_3 x wa ma wc mc ry cW cM wf mf ++ va_pl L f) sz) (x_3 x wa ma wc (nI u.2.2.2.1) ry cW cM wf u.2.2.1 ++ va_pl u.1 u.2.1)) (va_A (x_3 x wa ma wc mc ry cW cM wf mf ++ va_pl L f) sz)) 64 320 (va_A (x_3 x wa ma wc mc ry cW cM wf mf ++ va_pl L f) sz) := by
  refine Met.ofW (cc := b_RF_meetAgain) (maxL := 4) (ret := none) (by decide) rfl ?_
  intro p e s m args below meth c s₁ B hml hv
  obtain ⟨rfl, hE, hP⟩ := hv
  have hx := B.exec
  have hb := B.bytes
  have hr := B.returns
  have hts : ∀ w ∈ BIG, w.before [.ref x].toArray s = true := fun w h => atoms_spec (ws := .code y_RF_meetAgain b_RF_meetAgain 4 none :: BIG) B.pre w (List.mem_cons_of_mem _ h)
  have hown : s.vm.findClass "RayField" = some m.cls := findClass_of_methodNamed B.named
  have hlocks := B.notSynchronized
  have hK := hE.2
  have S0 : CallFix p m c b_RF_meetAgain 4 s [.ref x].toArray BIG "RayField" := ⟨hx, hb, hml, hown, hts⟩
  have hl := lv_entry ([.ref x]) (n := 4) (Nat.le_of_ble_eq_true rfl)
  rw [lg_entry_eq]
  generalize (lg_sl ([.ref x]) ++ List.replicate (4 - (lg_sl ([.ref x])).length) Slot.unset).toArray = ls at hl ⊢
  have hl : lv_has ls 4 [(0, .ref x)] := hl
  obtain ⟨hsz, hP, hD0⟩ := hP
  subst hsz
  have hD := hD0.self (sz := s.heap.size)
  generalize hAe : va_A (x_3 x wa ma wc mc ry cW cM wf mf ++ va_pl L f) s.heap.size = A at hD ⊢
  have hA : ∀ q : Nat, s.heap.size ≤ q → A q := fun q h => by rw [← hAe]; exact Or.inr h
  obtain ⟨H, hH⟩ : ∃ H : Heap, H = s.heap := ⟨_, rfl⟩
  refine rf_heap hH ?_
  have hS : va_S A s.heap H [] := by rw [hH]; exact va_S.rf
  have hP : va_P D vwCl (x_3 x wa ma wc mc ry cW cM wf mf ++ va_pl L f) H := by rw [hH]; exact hP
  refine lv_aload_n hx hb d_RF_meetAgain_0 rfl (lv_at hl 0 rfl) ?_
  refine lv_iconst (v := 0) hx hb d_RF_meetAgain_1 (by decide) ?_
  refine rf_topi nI_0.symm ?_
  refine va_put (D := D) (ci := 3) (v := .int (nI 0)) (ty := .int) (C := "RayField") (T := F_RF) (N := 5) hx hb hts in_RF t_RF tok_RF nn_RF hown hK hP hD hS 0 rfl rfl 4 (by decide) (hts _ w_23) (fun _ h9 => h9) rfl (by decide +kernel) rfl rfl (Nat.le_of_ble_eq_true rfl) d_RF_meetAgain_2 (fun H locs hP hD hS => ?_)
  have hP : va_P D vwCl (x_3 x wa ma wc (nI 0) ry cW cM wf mf ++ va_pl L f) H := hP
  have hD : va_D A (x_3 x wa ma wc (nI 0) ry cW cM wf mf ++ va_pl L f) := hD
  refine lv_aload_n hx hb d_RF_meetAgain_5 rfl (lv_at hl 0 rfl) ?_
  refine va_get (D := D) (ci := 3) (v := va_rf ry) (C := "RayField") (T := F_RF) (N := 5) hx hb hts in_RF hown hK hP 0 rfl rfl 2 (by decide) (hts _ w_21) (fun _ h9 => h9) rfl d_RF_meetAgain_6 ?_
  refine rf_topq (fun e_1 => ?_) (fun q_2 e_1 => ?_)
  · refine lv_astore_nN (lv' := [(1, .null), (0, .ref x)]) hx hb d_RF_meetAgain_9 rfl hl (by decide) rfl (fun ls hl => ?_)
    refine lv_aload_nN hx hb d_RF_meetAgain_10 rfl (lv_at hl 0 rfl) ?_
    refine lv_ifnonnullN hx hb d_RF_meetAgain_11 ?_
    refine W.widen (k := 64) (n := 320) (by omega) (by omega) ?_
    exact W.vret hx hb hr (fun t ht hW => ⟨⟨(L, f, mf, 0, fun _ => 0), rfl, ⟨rf_keep.rfl', hmp, Nat.zero_le _, Or.inl ⟨e_1, rfl⟩⟩, by rw [ht]; exact hP, hD⟩, hS.F ht⟩) hS.2.2 d_RF_meetAgain_14
  · obtain ⟨hqr, hqrf⟩ := hry q_2 e_1
    refine lv_astore_n (lv' := [(1, .ref q_2), (0, .ref x)]) hx hb d_RF_meetAgain_9 rfl hl (by decide) rfl (fun ls hl => ?_)
    refine lv_aload_n hx hb d_RF_meetAgain_10 rfl (lv_at hl 0 rfl) ?_
    refine lv_ifnonnull (tgt := 15) hx hb d_RF_meetAgain_11 (by decide) ?_
    refine lv_iconst (v := 0) hx hb d_RF_meetAgain_15 (by decide) ?_
    refine rf_topi nI_0.symm ?_
    refine lv_istore_n (lv' := [(2, .int (nI 0)), (1, .ref q_2), (0, .ref x)]) hx hb d_RF_meetAgain_16 rfl hl (by decide) rfl (fun ls hl => ?_)
    refine rf_loop 17 64 (fun i ls H locs k1 k2 => ∃ (n : Nat) (g : Nat → Nat) (L1 : List Nat) (f1 : Nat → va_E) (mf1 : Nat → Option Nat), lv_has ls 4 [(2, .int (nI i)), (0, .ref x), (1, .ref q_2)] ∧ va_P D vwCl (x_3 x wa ma wc (nI n) ry cW cM wf mf1 ++ va_pl L1 f1) H ∧ va_D A (x_3 x wa ma wc (nI n) ry cW cM wf mf1 ++ va_pl L1 f1) ∧ va_S A s.heap H locs ∧ rf_keep L f L1 f1 ∧ rf_mpool L1 f1 mf1 ∧ rf_meets L1 f1 mf1 wl ra n g ∧ g_ok (rf_mt wl ra) (rf_nr wl ra) i n g ∧ k1 = i ∧ k2 = 5 * i) (fun ls H locs k1 k2 hI => ?_) (fun i ls H locs k1 k2 hi hI hk => ?_) 0 (Nat.zero_le _) ⟨0, fun _ => 0, L, f, mf, lv_sub hl [0, 2, 1] rfl, hP, hD, hS, rf_keep.rfl', hmp, fun j hj => absurd hj (Nat.not_lt_zero _), rfl, rfl, rfl⟩
    · obtain ⟨n, g, L1, f1, mf1, hl, hP, hD, hS, hkp, hmp1, hM1, hg, hk1, hk2⟩ := hI
      subst k1
      subst k2
      have hnle := g_ok_le hg
      have hw1 := hw.keep hkp
      refine lv_iload_n hx hb d_RF_meetAgain_17 rfl (lv_at hl 0 rfl) ?_
      refine lv_aload_n hx hb d_RF_meetAgain_18 rfl (lv_at hl 1 rfl) ?_
      refine va_get (D := D) (ci := 3) (v := .ref wa) (C := "RayField") (T := F_RF) (N := 5) hx hb hts in_RF hown hK hP 0 rfl rfl 0 (by decide) (hts _ w_19) (fun _ h9 => h9) rfl d_RF_meetAgain_19 ?_
      refine va_alen hx hb hK hP 1 0 rfl rfl (v := nI 64) rfl d_RF_meetAgain_22 ?_
      refine lv_icmp_ge (tgt := 62) hx hb d_RF_meetAgain_23 (by decide) (fun c_3 => ?_) (fun c_3 => absurd (nI_le (Nat.le_refl _) (by decide)) c_3)
      refine W.widen (k := 64) (n := 320) (by omega) (by omega) ?_
      exact W.vret hx hb hr (fun t ht hW => ⟨⟨(L1, f1, mf1, n, g), rfl, ⟨hkp, hmp1, hnle, Or.inr ⟨q_2, e_1, hM1, hg⟩⟩, by rw [ht]; exact hP, hD⟩, hS.F ht⟩) hS.2.2 d_RF_meetAgain_62
    · obtain ⟨n, g, L1, f1, mf1, hl, hP, hD, hS, hkp, hmp1, hM1, hg, hk1, hk2⟩ := hI
      subst k1
      subst k2
      have hnle := g_ok_le hg
      have hw1 := hw.keep hkp
      refine lv_iload_n hx hb d_RF_meetAgain_17 rfl (lv_at hl 0 rfl) ?_
      refine lv_aload_n hx hb d_RF_meetAgain_18 rfl (lv_at hl 1 rfl) ?_
      refine va_get (D := D) (ci := 3) (v := .ref wa) (C := "RayField") (T := F_RF) (N := 5) hx hb hts in_RF hown hK hP 0 rfl rfl 0 (by decide) (hts _ w_19) (fun _ h9 => h9) rfl d_RF_meetAgain_19 ?_
      refine va_alen hx hb hK hP 1 0 rfl rfl (v := nI 64) rfl d_RF_meetAgain_22 ?_
      refine lv_icmp_ge (tgt := 62) hx hb d_RF_meetAgain_23 (by decide) (fun c_4 => absurd c_4 (nI_ge hi (by decide))) (fun c_4 => ?_)
      refine lv_aload_n hx hb d_RF_meetAgain_26 rfl (lv_at hl 1 rfl) ?_
      refine va_get (D := D) (ci := 3) (v := .ref wa) (C := "RayField") (T := F_RF) (N := 5) hx hb hts in_RF hown hK hP 0 rfl rfl 0 (by decide) (hts _ w_19) (fun _ h9 => h9) rfl d_RF_meetAgain_27 ?_
      refine lv_iload_n hx hb d_RF_meetAgain_30 rfl (lv_at hl 0 rfl) ?_
      refine rf_aldq hx hb hK hP 1 0 rfl rfl hi (by decide) d_RF_meetAgain_31 ?_
      refine rf_topq (fun e_5 => ?_) (fun q_6 e_5 => ?_)
      · refine lv_astore_nN (lv' := [(3, .null), (2, .int (nI i)), (0, .ref x), (1, .ref q_2)]) hx hb d_RF_meetAgain_32 rfl hl (by decide) rfl (fun ls hl => ?_)
        refine lv_aload_nN hx hb d_RF_meetAgain_33 rfl (lv_at hl 0 rfl) ?_
        refine lv_ifnullN (tgt := 56) hx hb d_RF_meetAgain_34 (by decide) ?_
        refine lv_iinc (v := (nI (i + 1))) (lv' := [(2, .int (nI (i + 1))), (3, .null), (0, .ref x), (1, .ref q_2)]) hx hb d_RF_meetAgain_56 hl (k := 1) rfl (nI_1 i) (by decide) rfl (fun ls hl => ?_)
        refine lv_goto (tgt := 17) hx hb d_RF_meetAgain_59 (by decide) ?_
        refine W.widen (k := i + 1) (n := 5 * (i + 1)) (by omega) (by omega) ?_
        exact hk _ _ _ _ _ ⟨n, g, L1, f1, mf1, lv_sub hl [0, 2, 3] rfl, hP, hD, hS, hkp, hmp1, hM1, Or.inl ⟨rf_mt.no0 (hw1.non hi e_5), hg⟩, rfl, rfl⟩
      · obtain ⟨w, hwk, hqw, hqwf⟩ := hw1.get hi e_5
        refine lv_astore_n (lv' := [(3, .ref q_6), (2, .int (nI i)), (0, .ref x), (1, .ref q_2)]) hx hb d_RF_meetAgain_32 rfl hl (by decide) rfl (fun ls hl => ?_)
        refine lv_aload_n hx hb d_RF_meetAgain_33 rfl (lv_at hl 0 rfl) ?_
        refine lv_ifnull hx hb d_RF_meetAgain_34 ?_
        refine lv_aload_n hx hb d_RF_meetAgain_37 rfl (lv_at hl 2 rfl) ?_
        refine va_get (D := D) (ci := 3) (v := .int (nI n)) (C := "RayField") (T := F_RF) (N := 5) hx hb hts in_RF hown hK hP 0 rfl rfl 4 (by decide) (hts _ w_23) (fun _ h9 => h9) rfl d_RF_meetAgain_38 ?_
        refine lv_aload_n hx hb d_RF_meetAgain_41 rfl (lv_at hl 2 rfl) ?_
        refine va_get (D := D) (ci := 3) (v := .ref ma) (C := "RayField") (T := F_RF) (N := 5) hx hb hts in_RF hown hK hP 0 rfl rfl 3 (by decide) (hts _ w_22) (fun _ h9 => h9) rfl d_RF_meetAgain_42 ?_
        refine va_alen hx hb hK hP 2 1 rfl rfl (v := nI 64) rfl d_RF_meetAgain_45 ?_
        refine lv_icmp_ge (tgt := 56) hx hb d_RF_meetAgain_46 (by decide) (fun c_7 => absurd c_7 (nI_ge (show n < 64 by omega) (by decide))) (fun c_7 => ?_)
        refine lv_aload_n hx hb d_RF_meetAgain_49 rfl (lv_at hl 2 rfl) ?_
        refine lv_iload_n hx hb d_RF_meetAgain_50 rfl (lv_at hl 1 rfl) ?_
        refine lv_aload_n hx hb d_RF_meetAgain_51 rfl (lv_at hl 0 rfl) ?_
        refine lv_aload_n hx hb d_RF_meetAgain_52 rfl (lv_at hl 3 rfl) ?_
        have hFc := rf_freeW hD hS hA
        refine va_callv (rf_runV (As := [.int (nI i), .ref q_6, .ref q_2]) (rest := []) S0 ml_RF_118 (c_RF_meetOne l D x wa ma wc mc ry cW cM wf mf1 L1 f1 n (by omega) wl ra g hM1 hmp1 i w hwk q_6 q_2 hqw hqwf (hkp.1 _ hqr) (hkp.2.2 _ _ hqr hqrf) H.size) hE (va_recv hK hP (ci := 3) (q0 := 0) rfl rfl) ⟨rfl, hP, hD.weaken (fun _ _ _ _ => trivial)⟩ ⟨rfl, rfl, Nat.le_of_ble_eq_true rfl, Nat.le_of_ble_eq_true rfl⟩ rfl hl.1 rfl (Nat.le_of_ble_eq_true rfl) d_RF_meetAgain_53 ⟨show i + 1 ≤ 64 by omega, show 5 * i + 5 ≤ 320 by omega⟩) hS (fun q _ h => hFc q h) hFc (fun u t H1 locs ht hvm hu hB hz1 hk1 hS => ?_)
        obtain ⟨hP, hD1⟩ := hB
        rw [ht] at hP
        have hD := hD1.weaken (fun k q _ h => hFc q.1 h)
        generalize H1 = H at hP hS ⊢
        obtain ⟨L2, f2, mf2, n2, g2⟩ := u
        obtain ⟨hkp2, hmp2, hM2, hor⟩ := hu
        dsimp only at hkp2 hmp2 hM2 hor hP hD
        have hP : va_P D vwCl (x_3 x wa ma wc (nI n2) ry cW cM wf mf2 ++ va_pl L2 f2) H := hP
        have hD : va_D A (x_3 x wa ma wc (nI n2) ry cW cM wf mf2 ++ va_pl L2 f2) := hD
        refine lv_iinc (v := (nI (i + 1))) (lv' := [(2, .int (nI (i + 1))), (3, .ref q_6), (0, .ref x), (1, .ref q_2)]) hx hb d_RF_meetAgain_56 hl (k := 1) rfl (nI_1 i) (by decide) rfl (fun ls hl => ?_)
        refine lv_goto (tgt := 17) hx hb d_RF_meetAgain_59 (by decide) ?_
        refine W.widen (k := i + 1) (n := 5 * (i + 1)) (by omega) (by omega) ?_
        refine hk _ _ _ _ _ ⟨n2, g2, L2, f2, mf2, lv_sub hl [0, 2, 3] rfl, hP, hD, hS, hkp.trans hkp2, hmp2, hM2, ?_, rfl, rfl⟩
        rcases hor with ⟨h1, h2, h3⟩ | ⟨h1, h2, pz, h3, h4⟩
        · subst h2; subst h3; exact Or.inl ⟨rf_mt.no hwk h1, hg⟩
        · subst h2; exact Or.inr ⟨⟨w, hwk, h1⟩, n, g, pz, hg, rfl, h3, h4⟩
end
section
set_option maxHeartbeats 4000000 in
set_option maxRecDepth 100000 in
theorem c_RF_take (l : Launch) (D : va_G) (x wa ma : Nat) (wc mc : Int32) (ry : Option Nat) (cW cM : ClassId) (wf mf : Nat → Option Nat) (L : List Nat) (f : Nat → va_E) (wl : Nat → Option Q4) (ra : Q4) (n : Nat) (g : Nat → Nat) (hc : rf_CF wl ra ry wf mf L f n g) (i : Int32) (sz : Nat) : Met l y_RF_take (.code y_RF_take b_RF_take 2 (some (.boolean)) :: BIG) { frames := 5, cells := 64, slots := 320, locals := 200 } (rf_Pc D (x_t cW cM) [.ref x, .int i] (fun h => h.size = sz ∧ va_P D vwCl (x_3 x wa ma wc (nI n) ry cW cM wf mf ++ va_pl L f) h ∧ va_D (fun _ => True) (x_3 x wa ma wc (nI n) ry cW cM wf mf ++ va_pl L f))) (va_Qi (S := Int32 × Option Nat × Q4 × (Nat → Option Nat) × (Nat → Option Q4) × List Nat × (Nat → va_E) × (Nat → Option Nat) × Nat × (Nat → Nat)) (fun r u => ((∃ k w, k < 64 ∧ i = nI k ∧ wl k = some w ∧ r = 1 ∧ u.2.2.2.2.1 = va_up wl k none ∧ u.1 = wc - 1 ∧ u.2.1 = ry ∧ u.2.2.1 = ra) ∨ ((∀ k w, k < 64 → i = nI k → ¬ wl k = some w) ∧ r = 0 ∧ u.2.2.2.2.1 = wl ∧ u.1 = wc ∧ u.2.1 = ry ∧ u.2.2.1 = ra)) ∧ rf_CF u.2.2.2.2.1 u.2.2.1 u.2.1 u.2.2.2.1 u.2.2.2.2.2.2.2.1 u.2.2.2.2.2.1 u.2.2.2.2.2.2.1 u.2.2.2.2.2.2.2.2.1 u.2.2.2.2.2.2.2.2.2) (fun u t => va_P D vwCl (x_3 x wa ma u.1 (nI u.2.2.2.2.2.2.2.2.1) u.2.1 cW cM u.2.2.2.1 u.2.2.2.2.2.2.2.1 ++ va_pl u.2.2.2.2.2.1 u.2.2.2.2.2.2.1) t.heap ∧ va_D (va_A (x_3 x wa ma wc (nI n) ry cW cM wf mf ++ va_pl L f) sz) (x_3 x wa ma u.1 (nI u.2.2.2.2.2.2.2.2.1) u.2.1 cW cM u.2.2.2.1 u.2.2.2.2.2.2.2.1 ++ va_pl u.2.2.2.2.2.1 u.2.2.2.2.2.2.1)) (va_A (x_3 x wa ma wc (nI n) ry cW cM wf mf ++ va_pl L f) sz)) 64 320 (va_A (x_3 x wa ma wc (nI n) ry cW cM wf mf ++ va_pl L f) sz) := by
  refine Met.ofW (cc := b_RF_take) (maxL := 2) (ret := (some (.boolean))) (by decide) rfl ?_
  intro p e s m args below meth c s₁ B hml hv
  obtain ⟨rfl, hE, hP⟩ := hv
  have hx := B.exec
  have hb := B.bytes
  have hr := B.returns
  have hts : ∀ w ∈ BIG, w.before [.ref x, .int i].toArray s = true := fun w h => atoms_spec (ws := .code y_RF_take b_RF_take 2 (some (.boolean)) :: BIG) B.pre w (List.mem_cons_of_mem _ h)
  have hown : s.vm.findClass "RayField" = some m.cls := findClass_of_methodNamed B.named
  have hlocks := B.notSynchronized
  have hK := hE.2
  have S0 : CallFix p m c b_RF_take 2 s [.ref x, .int i].toArray BIG "RayField" := ⟨hx, hb, hml, hown, hts⟩
  have hl := lv_entry ([.ref x, .int i]) (n := 2) (Nat.le_of_ble_eq_true rfl)
  rw [lg_entry_eq]
  generalize (lg_sl ([.ref x, .int i]) ++ List.replicate (2 - (lg_sl ([.ref x, .int i])).length) Slot.unset).toArray = ls at hl ⊢
  have hl : lv_has ls 2 [(0, .ref x), (1, .int i)] := hl
  obtain ⟨hsz, hP, hD0⟩ := hP
  subst hsz
  have hD := hD0.self (sz := s.heap.size)
  generalize hAe : va_A (x_3 x wa ma wc (nI n) ry cW cM wf mf ++ va_pl L f) s.heap.size = A at hD ⊢
  have hA : ∀ q : Nat, s.heap.size ≤ q → A q := fun q h => by rw [← hAe]; exact Or.inr h
  obtain ⟨H, hH⟩ : ∃ H : Heap, H = s.heap := ⟨_, rfl⟩
  refine rf_heap hH ?_
  have hS : va_S A s.heap H [] := by rw [hH]; exact va_S.rf
  have hP : va_P D vwCl (x_3 x wa ma wc (nI n) ry cW cM wf mf ++ va_pl L f) H := by rw [hH]; exact hP
  obtain ⟨hw, hmp, hry, hn64, hn0, hM, hgo⟩ := hc
  refine lv_aload_n hx hb d_RF_take_0 rfl (lv_at hl 0 rfl) ?_
  refine lv_iload_n hx hb d_RF_take_1 rfl (lv_at hl 1 rfl) ?_
  refine va_csq (va_Run.run (rf_runV (As := [.int i]) (rest := []) S0 ml_RF_47 (c_RF_wallNumbered l D x wa ma wc (nI n) ry cW cM wf mf L f i) hE (va_recv hK hP (ci := 3) (q0 := 0) rfl rfl) hP ⟨rfl, rfl, Nat.le_of_ble_eq_true rfl, Nat.le_of_ble_eq_true rfl⟩ rfl hl.1 rfl (Nat.le_of_ble_eq_true rfl) d_RF_take_2 ⟨Nat.zero_le _, Nat.zero_le _⟩)) (fun r_1 h_2 => ?_)
  refine rf_topq (fun e_3 => ?_) (fun q_4 e_3 => ?_)
  · have h0 := rf_wn_none hw h_2 e_3
    refine lv_ifnonnullN hx hb d_RF_take_5 ?_
    refine lv_iconst (v := 0) hx hb d_RF_take_8 (by decide) ?_
    refine W.widen (k := 64) (n := 320) (by omega) (by omega) ?_
    exact W.zret (v := 0) (ty := .boolean) hx hb hr rfl (fun t ht hW => ⟨⟨_, (wc, ry, ra, wf, wl, L, f, mf, n, g), rfl, ⟨Or.inr ⟨rf_no_wall h0, rfl, rfl, rfl, rfl, rfl⟩, ⟨hw, hmp, hry, hn64, hn0, hM, hgo⟩⟩, by rw [ht]; exact hP, hD⟩, hS.F ht⟩) hS.2.2 d_RF_take_9
  · obtain ⟨k, w, hk, ek, b0, b1, b2, b3⟩ := rf_wn_some hw h_2 e_3
    subst ek
    refine lv_ifnonnull (tgt := 10) hx hb d_RF_take_5 (by decide) ?_
    refine lv_aload_n hx hb d_RF_take_10 rfl (lv_at hl 0 rfl) ?_
    refine va_get (D := D) (ci := 3) (v := .ref wa) (C := "RayField") (T := F_RF) (N := 5) hx hb hts in_RF hown hK hP 0 rfl rfl 0 (by decide) (hts _ w_19) (fun _ h9 => h9) rfl d_RF_take_11 ?_
    refine lv_iload_n hx hb d_RF_take_14 rfl (lv_at hl 1 rfl) ?_
    refine lv_null hx hb d_RF_take_15 ?_
    refine rf_astqN (C := "RayField$Wall") hx hb hK hP hD hS 1 0 rfl rfl hk (by decide) d_RF_take_16 (fun H locs hP hD hS => ?_)
    have hP : va_P D vwCl (x_3 x wa ma wc (nI n) ry cW cM (va_up wf k none) mf ++ va_pl L f) H := hP
    have hD : va_D A (x_3 x wa ma wc (nI n) ry cW cM (va_up wf k none) mf ++ va_pl L f) := hD
    have hw2 := hw.take (k := k)
    refine lv_aload_n hx hb d_RF_take_17 rfl (lv_at hl 0 rfl) ?_
    refine lv_dup hx hb d_RF_take_18 rfl ?_
    refine va_get (D := D) (ci := 3) (v := .int wc) (C := "RayField") (T := F_RF) (N := 5) hx hb hts in_RF hown hK hP 0 rfl rfl 1 (by decide) (hts _ w_20) (fun _ h9 => h9) rfl d_RF_take_19 ?_
    refine lv_iconst (v := 1) hx hb d_RF_take_22 (by decide) ?_
    refine lv_isub hx hb d_RF_take_23 ?_
    refine va_put (D := D) (ci := 3) (v := .int (wc - 1)) (ty := .int) (C := "RayField") (T := F_RF) (N := 5) hx hb hts in_RF t_RF tok_RF nn_RF hown hK hP hD hS 0 rfl rfl 1 (by decide) (hts _ w_20) (fun _ h9 => h9) rfl (by decide +kernel) rfl rfl (Nat.le_of_ble_eq_true rfl) d_RF_take_24 (fun H locs hP hD hS => ?_)
    have hP : va_P D vwCl (x_3 x wa ma (wc - 1) (nI n) ry cW cM (va_up wf k none) mf ++ va_pl L f) H := hP
    have hD : va_D A (x_3 x wa ma (wc - 1) (nI n) ry cW cM (va_up wf k none) mf ++ va_pl L f) := hD
    refine lv_aload_n hx hb d_RF_take_27 rfl (lv_at hl 0 rfl) ?_
    have hFc := rf_freeW hD hS hA
    refine va_callv (rf_runV (As := []) (rest := []) S0 ml_RF_44 (c_RF_meetAgain l D x wa ma (wc - 1) (nI n) ry cW cM (va_up wf k none) mf L f (va_up wl k none) ra hw2 hmp hry H.size) hE (va_recv hK hP (ci := 3) (q0 := 0) rfl rfl) ⟨rfl, hP, hD.weaken (fun _ _ _ _ => trivial)⟩ ⟨rfl, rfl, Nat.le_of_ble_eq_true rfl, Nat.le_of_ble_eq_true rfl⟩ rfl hl.1 rfl (Nat.le_of_ble_eq_true rfl) d_RF_take_28 ⟨Nat.le_of_ble_eq_true rfl, Nat.le_of_ble_eq_true rfl⟩) hS (fun q _ h => hFc q h) hFc (fun u t H1 locs ht hvm hu hB hz1 hk1 hS => ?_)
    obtain ⟨hP, hD1⟩ := hB
    rw [ht] at hP
    have hD := hD1.weaken (fun k q _ h => hFc q.1 h)
    generalize H1 = H at hP hS ⊢
    obtain ⟨L9, f9, mf9, n9, g9⟩ := u
    have hcf := rf_CF.mk9 hw2 hry hu
    dsimp only at hcf hP hD
    have hP : va_P D vwCl (x_3 x wa ma (wc - 1) (nI n9) ry cW cM (va_up wf k none) mf9 ++ va_pl L9 f9) H := hP
    have hD : va_D A (x_3 x wa ma (wc - 1) (nI n9) ry cW cM (va_up wf k none) mf9 ++ va_pl L9 f9) := hD
    refine lv_iconst (v := 1) hx hb d_RF_take_31 (by decide) ?_
    refine W.widen (k := 64) (n := 320) (by omega) (by omega) ?_
    exact W.zret (v := 1) (ty := .boolean) hx hb hr rfl (fun t ht hW => ⟨⟨_, (wc - 1, ry, ra, (va_up wf k none), (va_up wl k none), L9, f9, mf9, n9, g9), rfl, ⟨Or.inl ⟨k, w, hk, rfl, b1, rfl, rfl, rfl, rfl, rfl⟩, hcf⟩, by rw [ht]; exact hP, hD⟩, hS.F ht⟩) hS.2.2 d_RF_take_32
set_option maxHeartbeats 4000000 in
set_option maxRecDepth 100000 in
theorem c_RF_turn (l : Launch) (D : va_G) (x wa ma : Nat) (wc mc : Int32) (ry : Option Nat) (cW cM : ClassId) (wf mf : Nat → Option Nat) (L : List Nat) (f : Nat → va_E) (wl : Nat → Option Q4) (ra : Q4) (n : Nat) (g : Nat → Nat) (hc : rf_CF wl ra ry wf mf L f n g) (i : Int32) (sz : Nat) : Met l y_RF_turn (.code y_RF_turn b_RF_turn 3 (some (.boolean)) :: BIG) { frames := 5, cells := 64, slots := 320, locals := 200 } (rf_Pc D (x_t cW cM) [.ref x, .int i] (fun h => h.size = sz ∧ va_P D vwCl (x_3 x wa ma wc (nI n) ry cW cM wf mf ++ va_pl L f) h ∧ va_D (fun _ => True) (x_3 x wa ma wc (nI n) ry cW cM wf mf ++ va_pl L f))) (va_Qi (S := Int32 × Option Nat × Q4 × (Nat → Option Nat) × (Nat → Option Q4) × List Nat × (Nat → va_E) × (Nat → Option Nat) × Nat × (Nat → Nat)) (fun r u => ((∃ k w, k < 64 ∧ i = nI k ∧ wl k = some w ∧ r = 1 ∧ u.2.2.2.2.1 = va_up wl k (some (w.2.2.1, w.2.2.2, w.1, w.2.1)) ∧ u.1 = wc ∧ u.2.1 = ry ∧ u.2.2.1 = ra) ∨ ((∀ k w, k < 64 → i = nI k → ¬ wl k = some w) ∧ r = 0 ∧ u.2.2.2.2.1 = wl ∧ u.1 = wc ∧ u.2.1 = ry ∧ u.2.2.1 = ra)) ∧ rf_CF u.2.2.2.2.1 u.2.2.1 u.2.1 u.2.2.2.1 u.2.2.2.2.2.2.2.1 u.2.2.2.2.2.1 u.2.2.2.2.2.2.1 u.2.2.2.2.2.2.2.2.1 u.2.2.2.2.2.2.2.2.2) (fun u t => va_P D vwCl (x_3 x wa ma u.1 (nI u.2.2.2.2.2.2.2.2.1) u.2.1 cW cM u.2.2.2.1 u.2.2.2.2.2.2.2.1 ++ va_pl u.2.2.2.2.2.1 u.2.2.2.2.2.2.1) t.heap ∧ va_D (va_A (x_3 x wa ma wc (nI n) ry cW cM wf mf ++ va_pl L f) sz) (x_3 x wa ma u.1 (nI u.2.2.2.2.2.2.2.2.1) u.2.1 cW cM u.2.2.2.1 u.2.2.2.2.2.2.2.1 ++ va_pl u.2.2.2.2.2.1 u.2.2.2.2.2.2.1)) (va_A (x_3 x wa ma wc (nI n) ry cW cM wf mf ++ va_pl L f) sz)) 64 320 (va_A (x_3 x wa ma wc (nI n) ry cW cM wf mf ++ va_pl L f) sz) := by
  refine Met.ofW (cc := b_RF_turn) (maxL := 3) (ret := (some (.boolean))) (by decide) rfl ?_
  intro p e s m args below meth c s₁ B hml hv
  obtain ⟨rfl, hE, hP⟩ := hv
  have hx := B.exec
  have hb := B.bytes
  have hr := B.returns
  have hts : ∀ w ∈ BIG, w.before [.ref x, .int i].toArray s = true := fun w h => atoms_spec (ws := .code y_RF_turn b_RF_turn 3 (some (.boolean)) :: BIG) B.pre w (List.mem_cons_of_mem _ h)
  have hown : s.vm.findClass "RayField" = some m.cls := findClass_of_methodNamed B.named
  have hlocks := B.notSynchronized
  have hK := hE.2
  have S0 : CallFix p m c b_RF_turn 3 s [.ref x, .int i].toArray BIG "RayField" := ⟨hx, hb, hml, hown, hts⟩
  have hl := lv_entry ([.ref x, .int i]) (n := 3) (Nat.le_of_ble_eq_true rfl)
  rw [lg_entry_eq]
  generalize (lg_sl ([.ref x, .int i]) ++ List.replicate (3 - (lg_sl ([.ref x, .int i])).length) Slot.unset).toArray = ls at hl ⊢
  have hl : lv_has ls 3 [(0, .ref x), (1, .int i)] := hl
  obtain ⟨hsz, hP, hD0⟩ := hP
  subst hsz
  have hD := hD0.self (sz := s.heap.size)
  generalize hAe : va_A (x_3 x wa ma wc (nI n) ry cW cM wf mf ++ va_pl L f) s.heap.size = A at hD ⊢
  have hA : ∀ q : Nat, s.heap.size ≤ q → A q := fun q h => by rw [← hAe]; exact Or.inr h
  obtain ⟨H, hH⟩ : ∃ H : Heap, H = s.heap := ⟨_, rfl⟩
  refine rf_heap hH ?_
  have hS : va_S A s.heap H [] := by rw [hH]; exact va_S.rf
  have hP : va_P D vwCl (x_3 x wa ma wc (nI n) ry cW cM wf mf ++ va_pl L f) H := by rw [hH]; exact hP
  obtain ⟨hw, hmp, hry, hn64, hn0, hM, hgo⟩ := hc
  refine lv_aload_n hx hb d_RF_turn_0 rfl (lv_at hl 0 rfl) ?_
  refine lv_iload_n hx hb d_RF_turn_1 rfl (lv_at hl 1 rfl) ?_
  refine va_csq (va_Run.run (rf_runV (As := [.int i]) (rest := []) S0 ml_RF_47 (c_RF_wallNumbered l D x wa ma wc (nI n) ry cW cM wf mf L f i) hE (va_recv hK hP (ci := 3) (q0 := 0) rfl rfl) hP ⟨rfl, rfl, Nat.le_of_ble_eq_true rfl, Nat.le_of_ble_eq_true rfl⟩ rfl hl.1 rfl (Nat.le_of_ble_eq_true rfl) d_RF_turn_2 ⟨Nat.zero_le _, Nat.zero_le _⟩)) (fun r_1 h_2 => ?_)
  refine rf_topq (fun e_3 => ?_) (fun q_4 e_3 => ?_)
  · have h0 := rf_wn_none hw h_2 e_3
    refine lv_astore_nN (lv' := [(2, .null), (0, .ref x), (1, .int i)]) hx hb d_RF_turn_5 rfl hl (by decide) rfl (fun ls hl => ?_)
    refine lv_aload_nN hx hb d_RF_turn_6 rfl (lv_at hl 0 rfl) ?_
    refine lv_ifnonnullN hx hb d_RF_turn_7 ?_
    refine lv_iconst (v := 0) hx hb d_RF_turn_10 (by decide) ?_
    refine W.widen (k := 64) (n := 320) (by omega) (by omega) ?_
    exact W.zret (v := 0) (ty := .boolean) hx hb hr rfl (fun t ht hW => ⟨⟨_, (wc, ry, ra, wf, wl, L, f, mf, n, g), rfl, ⟨Or.inr ⟨rf_no_wall h0, rfl, rfl, rfl, rfl, rfl⟩, ⟨hw, hmp, hry, hn64, hn0, hM, hgo⟩⟩, by rw [ht]; exact hP, hD⟩, hS.F ht⟩) hS.2.2 d_RF_turn_11
  · obtain ⟨k, w, hk, ek, b0, b1, b2, b3⟩ := rf_wn_some hw h_2 e_3
    subst ek
    refine lv_astore_n (lv' := [(2, .ref q_4), (0, .ref x), (1, .int (nI k))]) hx hb d_RF_turn_5 rfl hl (by decide) rfl (fun ls hl => ?_)
    refine lv_aload_n hx hb d_RF_turn_6 rfl (lv_at hl 0 rfl) ?_
    refine lv_ifnonnull (tgt := 12) hx hb d_RF_turn_7 (by decide) ?_
    refine lv_aload_n hx hb d_RF_turn_12 rfl (lv_at hl 0 rfl) ?_
    have hFc := rf_poolfree (wc := [(q_4, e_W w)]) hD hS hA (rf_mem1 b2)
    refine va_callv (rf_runV (As := []) (rest := []) S0 ml_RF_51 (c_Wall_exchange l D (x_t cW cM) q_4 w H.size) hE (va_recv hK (rf_pl hP b2 b3) (ci := 0) (q0 := 0) rfl rfl) ⟨rfl, rf_pl hP b2 b3, rf_D1⟩ ⟨rfl, rfl, Nat.le_of_ble_eq_true rfl, Nat.le_of_ble_eq_true rfl⟩ rfl hl.1 rfl (Nat.le_of_ble_eq_true rfl) d_RF_turn_13 ⟨Nat.le_of_ble_eq_true rfl, Nat.le_of_ble_eq_true rfl⟩) hS (fun q _ h => hFc q h) hFc (fun u0 t H1 locs ht hvm hw0 hB hz1 hk1 hS => ?_)
    obtain ⟨hP1, hD1⟩ := hB
    rw [ht] at hP1
    obtain ⟨hP, hD⟩ := rf_pool1 (u := e_W (w.2.2.1, w.2.2.2, w.1, w.2.1)) hP hD b2 hk1 hP1
    generalize H1 = H at hP hS ⊢
    have hP : va_P D vwCl (x_3 x wa ma wc (nI n) ry cW cM wf mf ++ va_pl L (va_up f q_4 (e_W (w.2.2.1, w.2.2.2, w.1, w.2.1)))) H := hP
    have hD : va_D A (x_3 x wa ma wc (nI n) ry cW cM wf mf ++ va_pl L (va_up f q_4 (e_W (w.2.2.1, w.2.2.2, w.1, w.2.1)))) := hD
    have hw2 := hw.turn (w' := (w.2.2.1, w.2.2.2, w.1, w.2.1)) hk b0 b2
    have hmp2 := hmp.wall (u := e_W (w.2.2.1, w.2.2.2, w.1, w.2.1)) b3
    have hry2 : ∀ q, ry = some q → q ∈ L ∧ va_up f q_4 (e_W (w.2.2.1, w.2.2.2, w.1, w.2.1)) q = e_R ra := rf_ry_wall hry b3
    refine lv_aload_n hx hb d_RF_turn_16 rfl (lv_at hl 1 rfl) ?_
    have hFc := rf_freeW hD hS hA
    refine va_callv (rf_runV (As := []) (rest := []) S0 ml_RF_44 (c_RF_meetAgain l D x wa ma wc (nI n) ry cW cM wf mf L (va_up f q_4 (e_W (w.2.2.1, w.2.2.2, w.1, w.2.1))) (va_up wl k (some (w.2.2.1, w.2.2.2, w.1, w.2.1))) ra hw2 hmp2 hry2 H.size) hE (va_recv hK hP (ci := 3) (q0 := 0) rfl rfl) ⟨rfl, hP, hD.weaken (fun _ _ _ _ => trivial)⟩ ⟨rfl, rfl, Nat.le_of_ble_eq_true rfl, Nat.le_of_ble_eq_true rfl⟩ rfl hl.1 rfl (Nat.le_of_ble_eq_true rfl) d_RF_turn_17 ⟨Nat.le_of_ble_eq_true rfl, Nat.le_of_ble_eq_true rfl⟩) hS (fun q _ h => hFc q h) hFc (fun u t H1 locs ht hvm hu hB hz1 hk1 hS => ?_)
    obtain ⟨hP, hD1⟩ := hB
    rw [ht] at hP
    have hD := hD1.weaken (fun k q _ h => hFc q.1 h)
    generalize H1 = H at hP hS ⊢
    obtain ⟨L9, f9, mf9, n9, g9⟩ := u
    have hcf := rf_CF.mk9 hw2 hry2 hu
    dsimp only at hcf hP hD
    have hP : va_P D vwCl (x_3 x wa ma wc (nI n9) ry cW cM wf mf9 ++ va_pl L9 f9) H := hP
    have hD : va_D A (x_3 x wa ma wc (nI n9) ry cW cM wf mf9 ++ va_pl L9 f9) := hD
    refine lv_iconst (v := 1) hx hb d_RF_turn_20 (by decide) ?_
    refine W.widen (k := 64) (n := 320) (by omega) (by omega) ?_
    exact W.zret (v := 1) (ty := .boolean) hx hb hr rfl (fun t ht hW => ⟨⟨_, (wc, ry, ra, wf, (va_up wl k (some (w.2.2.1, w.2.2.2, w.1, w.2.1))), L9, f9, mf9, n9, g9), rfl, ⟨Or.inl ⟨k, w, hk, rfl, b1, rfl, rfl, rfl, rfl, rfl⟩, hcf⟩, by rw [ht]; exact hP, hD⟩, hS.F ht⟩) hS.2.2 d_RF_turn_21
end
section
set_option maxHeartbeats 4000000 in
set_option maxRecDepth 100000 in
theorem c_RF_put (l : Launch) (D : va_G) (x wa ma : Nat) (wc mc : Int32) (ry : Option Nat) (cW cM : ClassId) (wf mf : Nat → Option Nat) (L : List Nat) (f : Nat → va_E) (wl : Nat → Option Q4) (ra : Q4) (n : Nat) (g : Nat → Nat) (hc : rf_CF wl ra ry wf mf L f n g) (a1 a2 b1 b2 : Int32) (sz : Nat) : Met l y_RF_put (.code y_RF_put b_RF_put 7 (some (.int)) :: BIG) { frames := 5, cells := 65, slots := 324, locals := 200 } (rf_Pc D (x_t cW cM) [.ref x, .int a1, .int a2, .int b1, .int b2] (fun h => h.size = sz ∧ va_P D vwCl (x_3 x wa ma wc (nI n) ry cW cM wf mf ++ va_pl L f) h ∧ va_D (fun _ => True) (x_3 x wa ma wc (nI n) ry cW cM wf mf ++ va_pl L f))) (va_Qi (S := Int32 × Option Nat × Q4 × (Nat → Option Nat) × (Nat → Option Q4) × List Nat × (Nat → va_E) × (Nat → Option Nat) × Nat × (Nat → Nat)) (fun r u => ((∃ k, rf_putok m_clash wl (a1, a2, b1, b2) k ∧ r = nI k ∧ u.2.2.2.2.1 = va_up wl k (some (a1, a2, b1, b2)) ∧ u.1 = wc + 1 ∧ u.2.1 = ry ∧ u.2.2.1 = ra) ∨ ((∀ k, ¬ rf_putok m_clash wl (a1, a2, b1, b2) k) ∧ r = -1 ∧ u.2.2.2.2.1 = wl ∧ u.1 = wc ∧ u.2.1 = ry ∧ u.2.2.1 = ra)) ∧ rf_CF u.2.2.2.2.1 u.2.2.1 u.2.1 u.2.2.2.1 u.2.2.2.2.2.2.2.1 u.2.2.2.2.2.1 u.2.2.2.2.2.2.1 u.2.2.2.2.2.2.2.2.1 u.2.2.2.2.2.2.2.2.2) (fun u t => va_P D vwCl (x_3 x wa ma u.1 (nI u.2.2.2.2.2.2.2.2.1) u.2.1 cW cM u.2.2.2.1 u.2.2.2.2.2.2.2.1 ++ va_pl u.2.2.2.2.2.1 u.2.2.2.2.2.2.1) t.heap ∧ va_D (va_A (x_3 x wa ma wc (nI n) ry cW cM wf mf ++ va_pl L f) sz) (x_3 x wa ma u.1 (nI u.2.2.2.2.2.2.2.2.1) u.2.1 cW cM u.2.2.2.1 u.2.2.2.2.2.2.2.1 ++ va_pl u.2.2.2.2.2.1 u.2.2.2.2.2.2.1)) (va_A (x_3 x wa ma wc (nI n) ry cW cM wf mf ++ va_pl L f) sz)) 65 324 (va_A (x_3 x wa ma wc (nI n) ry cW cM wf mf ++ va_pl L f) sz) := by
  refine Met.ofW (cc := b_RF_put) (maxL := 7) (ret := (some (.int))) (by decide) rfl ?_
  intro p e s m args below meth c s₁ B hml hv
  obtain ⟨rfl, hE, hP⟩ := hv
  have hx := B.exec
  have hb := B.bytes
  have hr := B.returns
  have hts : ∀ w ∈ BIG, w.before [.ref x, .int a1, .int a2, .int b1, .int b2].toArray s = true := fun w h => atoms_spec (ws := .code y_RF_put b_RF_put 7 (some (.int)) :: BIG) B.pre w (List.mem_cons_of_mem _ h)
  have hown : s.vm.findClass "RayField" = some m.cls := findClass_of_methodNamed B.named
  have hlocks := B.notSynchronized
  have hK := hE.2
  have S0 : CallFix p m c b_RF_put 7 s [.ref x, .int a1, .int a2, .int b1, .int b2].toArray BIG "RayField" := ⟨hx, hb, hml, hown, hts⟩
  have hl := lv_entry ([.ref x, .int a1, .int a2, .int b1, .int b2]) (n := 7) (Nat.le_of_ble_eq_true rfl)
  rw [lg_entry_eq]
  generalize (lg_sl ([.ref x, .int a1, .int a2, .int b1, .int b2]) ++ List.replicate (7 - (lg_sl ([.ref x, .int a1, .int a2, .int b1, .int b2])).length) Slot.unset).toArray = ls at hl ⊢
  have hl : lv_has ls 7 [(0, .ref x), (1, .int a1), (2, .int a2), (3, .int b1), (4, .int b2)] := hl
  obtain ⟨hsz, hP, hD0⟩ := hP
  subst hsz
  have hD := hD0.self (sz := s.heap.size)
  generalize hAe : va_A (x_3 x wa ma wc (nI n) ry cW cM wf mf ++ va_pl L f) s.heap.size = A at hD ⊢
  have hA : ∀ q : Nat, s.heap.size ≤ q → A q := fun q h => by rw [← hAe]; exact Or.inr h
  obtain ⟨H, hH⟩ : ∃ H : Heap, H = s.heap := ⟨_, rfl⟩
  refine rf_heap hH ?_
  have hS : va_S A s.heap H [] := by rw [hH]; exact va_S.rf
  have hP : va_P D vwCl (x_3 x wa ma wc (nI n) ry cW cM wf mf ++ va_pl L f) H := by rw [hH]; exact hP
  have hc0 := hc
  obtain ⟨hw, hmp, hry, hn64, hn0, hM, hgo⟩ := hc
  refine lv_iload_n hx hb d_RF_put_0 rfl (lv_at hl 1 rfl) ?_
  refine lv_iload_n hx hb d_RF_put_1 rfl (lv_at hl 2 rfl) ?_
  refine lv_sipush (v := 2000) hx hb d_RF_put_2 (by decide) ?_
  refine vp_callSi (va_Run.run (rf_runS (As := [.int a1, .int a2, .int 2000]) (rest := []) S0 ml_RF_21 (c_RF_isPlace l D (x_t cW cM) a1 a2 2000) hE trivial ⟨rfl, rfl, Nat.le_of_ble_eq_true rfl, Nat.le_of_ble_eq_true rfl⟩ rfl hl.1 rfl (Nat.le_of_ble_eq_true rfl) d_RF_put_5 ⟨Nat.zero_le _, Nat.zero_le _⟩)) (fun r_1 h_2 => ?_)
  refine lv_if_eq (tgt := 23) hx hb d_RF_put_8 (by decide) (fun c_3 => ?_) (fun c_3 => ?_)
  · refine lv_iconst (v := -1) hx hb d_RF_put_23 (by decide) ?_
    refine W.widen (k := 65) (n := 324) (by omega) (by omega) ?_
    exact W.iret (v := (-1)) hx hb hr (fun t ht hW => ⟨⟨_, (wc, ry, ra, wf, wl, L, f, mf, n, g), rfl, ⟨Or.inr ⟨(fun k h => (h_2.f c_3) h.1), rfl, rfl, rfl, rfl, rfl⟩, ⟨hw, hmp, hry, hn64, hn0, hM, hgo⟩⟩, by rw [ht]; exact hP, hD⟩, hS.F ht⟩) hS.2.2 d_RF_put_24
  · refine lv_iload_n hx hb d_RF_put_11 rfl (lv_at hl 3 rfl) ?_
    refine lv_iload hx hb d_RF_put_12 (lv_at hl 4 rfl) ?_
    refine lv_sipush (v := 2000) hx hb d_RF_put_14 (by decide) ?_
    refine vp_callSi (va_Run.run (rf_runS (As := [.int b1, .int b2, .int 2000]) (rest := []) S0 ml_RF_21 (c_RF_isPlace l D (x_t cW cM) b1 b2 2000) hE trivial ⟨rfl, rfl, Nat.le_of_ble_eq_true rfl, Nat.le_of_ble_eq_true rfl⟩ rfl hl.1 rfl (Nat.le_of_ble_eq_true rfl) d_RF_put_17 ⟨Nat.zero_le _, Nat.zero_le _⟩)) (fun r_4 h_5 => ?_)
    refine lv_if_ne (tgt := 25) hx hb d_RF_put_20 (by decide) (fun c_6 => ?_) (fun c_6 => ?_)
    · refine lv_iload_n hx hb d_RF_put_25 rfl (lv_at hl 1 rfl) ?_
      refine lv_iload_n hx hb d_RF_put_26 rfl (lv_at hl 3 rfl) ?_
      refine lv_icmp_ne (tgt := 38) hx hb d_RF_put_27 (by decide) (fun c_7 => ?_) (fun c_7 => ?_)
      · refine lv_aload_n hx hb d_RF_put_38 rfl (lv_at hl 0 rfl) ?_
        refine vp_callSi (va_Run.run (rf_runV (As := []) (rest := []) S0 ml_RF_25 (c_RF_least l D x wa ma wc (nI n) ry cW cM wf mf L f) hE (va_recv hK hP (ci := 3) (q0 := 0) rfl rfl) hP ⟨rfl, rfl, Nat.le_of_ble_eq_true rfl, Nat.le_of_ble_eq_true rfl⟩ rfl hl.1 rfl (Nat.le_of_ble_eq_true rfl) d_RF_put_39 ⟨Nat.zero_le _, Nat.zero_le _⟩)) (fun r_8 h_9 => ?_)
        rcases h_9 with ⟨k, hk, ek, hf1, hf2⟩ | ⟨ek, hf1⟩
        · subst ek
          refine lv_istore (lv' := [(5, .int (nI k)), (0, .ref x), (1, .int a1), (2, .int a2), (3, .int b1), (4, .int b2)]) hx hb d_RF_put_42 hl (by decide) rfl (fun ls hl => ?_)
          refine lv_iload hx hb d_RF_put_44 (lv_at hl 0 rfl) ?_
          refine vp_callSi (va_Run.run (rf_runS (As := [.int (nI k)]) (rest := []) S0 ml_RF_29 (c_RF_isNumber l D (x_t cW cM) (nI k)) hE trivial ⟨rfl, rfl, Nat.le_of_ble_eq_true rfl, Nat.le_of_ble_eq_true rfl⟩ rfl hl.1 rfl (Nat.le_of_ble_eq_true rfl) d_RF_put_46 ⟨Nat.zero_le _, Nat.zero_le _⟩)) (fun r_10 h_11 => ?_)
          refine lv_if_ne (tgt := 54) hx hb d_RF_put_49 (by decide) (fun c_12 => ?_) (fun c_12 => absurd ⟨nI_pos' (show k < 2 ^ 31 by omega), nI_le (show k ≤ 63 by omega) (by decide)⟩ (h_11.f c_12))
          refine va_new (ci := 0) (fs := [.int 0, .int 0, .int 0, .int 0]) (C := "RayField$Wall") (T := F_Wall) (N := 4) hx hb hts in_Wall t_Wall tok_Wall hown (hts _ w_15) (hts _ w_52) (hts _ w_3) hK hP hD hS hA rfl (fun j hj => by rcases (show j = 0 ∨ j = 1 ∨ j = 2 ∨ j = 3 by omega) with rfl | rfl | rfl | rfl <;> rfl) (Nat.le_of_ble_eq_true rfl) (Nat.le_of_ble_eq_true rfl) d_RF_put_54 (fun qn H hP hD hS => ?_)
          obtain ⟨hqn, hP, hD⟩ := rf_push hP hD
          refine W.widen (k := 1) (n := 4) (by omega) (by omega) ?_
          have hqL : qn ∈ L ++ [qn] := List.mem_append_right _ (List.mem_singleton.mpr rfl)
          have hqf0 : va_up f qn (e_W (0, 0, 0, 0)) qn = e_W (0, 0, 0, 0) := va_up_self _ _ _
          have hP : va_P D vwCl (x_3 x wa ma wc (nI n) ry cW cM wf mf ++ va_pl (L ++ [qn]) (va_up f qn (e_W (0, 0, 0, 0)))) H := hP
          have hD : va_D A (x_3 x wa ma wc (nI n) ry cW cM wf mf ++ va_pl (L ++ [qn]) (va_up f qn (e_W (0, 0, 0, 0)))) := hD
          refine lv_dup hx hb d_RF_put_57 rfl ?_
          refine lv_iload_n hx hb d_RF_put_58 rfl (lv_at hl 2 rfl) ?_
          refine lv_iload_n hx hb d_RF_put_59 rfl (lv_at hl 3 rfl) ?_
          refine lv_iload_n hx hb d_RF_put_60 rfl (lv_at hl 4 rfl) ?_
          refine lv_iload hx hb d_RF_put_61 (lv_at hl 5 rfl) ?_
          have hFc := rf_poolfree (wc := [(qn, (e_W (0, 0, 0, 0)))]) hD hS hA (rf_mem1 hqL)
          refine va_callv (rf_runI (As := [.int a1, .int a2, .int b1, .int b2]) (rest := [.ref qn]) S0 ml_RF_33 (c_Wall_init l D (x_t cW cM) qn a1 a2 b1 b2 H.size) hE ⟨rfl, rf_pl hP hqL hqf0, rf_D1⟩ ⟨rfl, rfl, Nat.le_of_ble_eq_true rfl, Nat.le_of_ble_eq_true rfl⟩ rfl hl.1 rfl (Nat.le_of_ble_eq_true rfl) d_RF_put_63 ⟨Nat.le_of_ble_eq_true rfl, Nat.le_of_ble_eq_true rfl⟩) hS (fun q _ h => hFc q h) hFc (fun u0 t H1 locs ht hvm hw0 hB hz1 hk1 hS => ?_)
          obtain ⟨hP1, hD1⟩ := hB
          rw [ht] at hP1
          obtain ⟨hP, hD⟩ := rf_pool1 (u := (e_W (a1, a2, b1, b2))) hP hD hqL hk1 hP1
          generalize H1 = H at hP hS ⊢
          rw [bx_uu] at hP hD
          refine W.widen (k := 1) (n := 4) (by omega) (by omega) ?_
          have hP : va_P D vwCl (x_3 x wa ma wc (nI n) ry cW cM wf mf ++ va_pl (L ++ [qn]) (va_up f qn (e_W (a1, a2, b1, b2)))) H := hP
          have hD : va_D A (x_3 x wa ma wc (nI n) ry cW cM wf mf ++ va_pl (L ++ [qn]) (va_up f qn (e_W (a1, a2, b1, b2)))) := hD
          have hqf : va_up f qn (e_W (a1, a2, b1, b2)) qn = e_W (a1, a2, b1, b2) := va_up_self _ _ _
          have hcn := rf_CF.new (e := e_W (a1, a2, b1, b2)) hc0 hqn
          obtain ⟨hw1, hmp1, hry1, _, _, hM1, _⟩ := id hcn
          refine lv_astore (lv' := [(6, .ref qn), (5, .int (nI k)), (0, .ref x), (1, .int a1), (2, .int a2), (3, .int b1), (4, .int b2)]) hx hb d_RF_put_66 hl (by decide) rfl (fun ls hl => ?_)
          refine lv_aload_n hx hb d_RF_put_68 rfl (lv_at hl 2 rfl) ?_
          refine lv_aload hx hb d_RF_put_69 (lv_at hl 0 rfl) ?_
          refine vp_callSi (va_Run.run (rf_runV (As := [.ref qn]) (rest := []) S0 ml_RF_36 (c_RF_clashes l D x wa ma wc (nI n) ry cW cM wf mf (L ++ [qn]) (va_up f qn (e_W (a1, a2, b1, b2))) wl hw1 qn (a1, a2, b1, b2) hqL hqf) hE (va_recv hK hP (ci := 3) (q0 := 0) rfl rfl) hP ⟨rfl, rfl, Nat.le_of_ble_eq_true rfl, Nat.le_of_ble_eq_true rfl⟩ rfl hl.1 rfl (Nat.le_of_ble_eq_true rfl) d_RF_put_71 ⟨Nat.le_of_ble_eq_true rfl, Nat.le_of_ble_eq_true rfl⟩)) (fun r_13 h_14 => ?_)
          refine lv_if_eq (tgt := 79) hx hb d_RF_put_74 (by decide) (fun c_15 => ?_) (fun c_15 => ?_)
          · refine lv_aload_n hx hb d_RF_put_79 rfl (lv_at hl 2 rfl) ?_
            refine va_get (D := D) (ci := 3) (v := .ref wa) (C := "RayField") (T := F_RF) (N := 5) hx hb hts in_RF hown hK hP 0 rfl rfl 0 (by decide) (hts _ w_19) (fun _ h9 => h9) rfl d_RF_put_80 ?_
            refine lv_iload hx hb d_RF_put_83 (lv_at hl 1 rfl) ?_
            refine lv_aload hx hb d_RF_put_85 (lv_at hl 0 rfl) ?_
            obtain ⟨kq, hkq⟩ := va_pl_get (X := x_3 x wa ma wc (nI n) ry cW cM wf mf) (f := (va_up f qn (e_W (a1, a2, b1, b2)))) hqL
            rw [hqf] at hkq
            refine rf_astq (r := ("RayField$Wall", F_Wall, 4)) hx hb hK hP hD hS 1 0 kq 0 rfl rfl hkq rfl hk (by decide) d_RF_put_87 (fun H locs hP hD hS => ?_)
            have hP : va_P D vwCl (x_3 x wa ma wc (nI n) ry cW cM (va_up wf k (some qn)) mf ++ va_pl (L ++ [qn]) (va_up f qn (e_W (a1, a2, b1, b2)))) H := hP
            have hD : va_D A (x_3 x wa ma wc (nI n) ry cW cM (va_up wf k (some qn)) mf ++ va_pl (L ++ [qn]) (va_up f qn (e_W (a1, a2, b1, b2)))) := hD
            have hw2 := hw1.put (k := k) hqL hqf (hw.fresh hqn)
            refine lv_aload_n hx hb d_RF_put_88 rfl (lv_at hl 2 rfl) ?_
            refine lv_dup hx hb d_RF_put_89 rfl ?_
            refine va_get (D := D) (ci := 3) (v := .int wc) (C := "RayField") (T := F_RF) (N := 5) hx hb hts in_RF hown hK hP 0 rfl rfl 1 (by decide) (hts _ w_20) (fun _ h9 => h9) rfl d_RF_put_90 ?_
            refine lv_iconst (v := 1) hx hb d_RF_put_93 (by decide) ?_
            refine lv_iadd hx hb d_RF_put_94 ?_
            refine va_put (D := D) (ci := 3) (v := .int (wc + 1)) (ty := .int) (C := "RayField") (T := F_RF) (N := 5) hx hb hts in_RF t_RF tok_RF nn_RF hown hK hP hD hS 0 rfl rfl 1 (by decide) (hts _ w_20) (fun _ h9 => h9) rfl (by decide +kernel) rfl rfl (Nat.le_of_ble_eq_true rfl) d_RF_put_95 (fun H locs hP hD hS => ?_)
            have hP : va_P D vwCl (x_3 x wa ma (wc + 1) (nI n) ry cW cM (va_up wf k (some qn)) mf ++ va_pl (L ++ [qn]) (va_up f qn (e_W (a1, a2, b1, b2)))) H := hP
            have hD : va_D A (x_3 x wa ma (wc + 1) (nI n) ry cW cM (va_up wf k (some qn)) mf ++ va_pl (L ++ [qn]) (va_up f qn (e_W (a1, a2, b1, b2)))) := hD
            refine lv_aload_n hx hb d_RF_put_98 rfl (lv_at hl 2 rfl) ?_
            have hFc := rf_freeW hD hS hA
            refine va_callv (rf_runV (As := []) (rest := []) S0 ml_RF_44 (c_RF_meetAgain l D x wa ma (wc + 1) (nI n) ry cW cM (va_up wf k (some qn)) mf (L ++ [qn]) (va_up f qn (e_W (a1, a2, b1, b2))) (va_up wl k (some (a1, a2, b1, b2))) ra hw2 hmp1 hry1 H.size) hE (va_recv hK hP (ci := 3) (q0 := 0) rfl rfl) ⟨rfl, hP, hD.weaken (fun _ _ _ _ => trivial)⟩ ⟨rfl, rfl, Nat.le_of_ble_eq_true rfl, Nat.le_of_ble_eq_true rfl⟩ rfl hl.1 rfl (Nat.le_of_ble_eq_true rfl) d_RF_put_99 ⟨show 1 + 64 ≤ 65 by decide, show 4 + 320 ≤ 324 by decide⟩) hS (fun q _ h => hFc q h) hFc (fun u t H1 locs ht hvm hu hB hz1 hk1 hS => ?_)
            obtain ⟨hP, hD1⟩ := hB
            rw [ht] at hP
            have hD := hD1.weaken (fun k q _ h => hFc q.1 h)
            generalize H1 = H at hP hS ⊢
            obtain ⟨L9, f9, mf9, n9, g9⟩ := u
            have hcf := rf_CF.mk9 hw2 hry1 hu
            dsimp only at hcf hP hD
            have hP : va_P D vwCl (x_3 x wa ma (wc + 1) (nI n9) ry cW cM (va_up wf k (some qn)) mf9 ++ va_pl L9 f9) H := hP
            have hD : va_D A (x_3 x wa ma (wc + 1) (nI n9) ry cW cM (va_up wf k (some qn)) mf9 ++ va_pl L9 f9) := hD
            refine lv_iload hx hb d_RF_put_102 (lv_at hl 1 rfl) ?_
            refine W.widen (k := 65) (n := 324) (by omega) (by omega) ?_
            exact W.iret (v := nI k) hx hb hr (fun t ht hW => ⟨⟨_, (wc + 1, ry, ra, (va_up wf k (some qn)), (va_up wl k (some (a1, a2, b1, b2))), L9, f9, mf9, n9, g9), rfl, ⟨Or.inl ⟨k, ⟨(h_2.t c_3), (h_5.t c_6), (fun z => c_7 z.1), hk, (hw.iff hk).mp hf1, fun j hj z => hf2 j hj ((hw.iff (by omega)).mpr z), (h_14.f c_15)⟩, rfl, rfl, rfl, rfl, rfl⟩, hcf⟩, by rw [ht]; exact hP, hD⟩, hS.F ht⟩) hS.2.2 d_RF_put_104
          · refine lv_iconst (v := -1) hx hb d_RF_put_77 (by decide) ?_
            refine W.widen (k := 65) (n := 324) (by omega) (by omega) ?_
            exact W.iret (v := (-1)) hx hb hr (fun t ht hW => ⟨⟨_, (wc, ry, ra, wf, wl, (L ++ [qn]), (va_up f qn (e_W (a1, a2, b1, b2))), mf, n, g), rfl, ⟨Or.inr ⟨(fun k h => h.2.2.2.2.2.2 (h_14.t c_15)), rfl, rfl, rfl, rfl, rfl⟩, hcn⟩, by rw [ht]; exact hP, hD⟩, hS.F ht⟩) hS.2.2 d_RF_put_78
        · subst ek
          refine lv_istore (lv' := [(5, .int (-1)), (0, .ref x), (1, .int a1), (2, .int a2), (3, .int b1), (4, .int b2)]) hx hb d_RF_put_42 hl (by decide) rfl (fun ls hl => ?_)
          refine lv_iload hx hb d_RF_put_44 (lv_at hl 0 rfl) ?_
          refine vp_callSi (va_Run.run (rf_runS (As := [.int (-1)]) (rest := []) S0 ml_RF_29 (c_RF_isNumber l D (x_t cW cM) (-1)) hE trivial ⟨rfl, rfl, Nat.le_of_ble_eq_true rfl, Nat.le_of_ble_eq_true rfl⟩ rfl hl.1 rfl (Nat.le_of_ble_eq_true rfl) d_RF_put_46 ⟨Nat.zero_le _, Nat.zero_le _⟩)) (fun r_16 h_17 => ?_)
          refine lv_if_ne (tgt := 54) hx hb d_RF_put_49 (by decide) (fun c_18 => absurd (h_17.t c_18).1 (by decide)) (fun c_18 => ?_)
          refine lv_iconst (v := -1) hx hb d_RF_put_52 (by decide) ?_
          refine W.widen (k := 65) (n := 324) (by omega) (by omega) ?_
          exact W.iret (v := (-1)) hx hb hr (fun t ht hW => ⟨⟨_, (wc, ry, ra, wf, wl, L, f, mf, n, g), rfl, ⟨Or.inr ⟨(fun k h => hf1 k h.2.2.2.1 ((hw.iff h.2.2.2.1).mpr h.2.2.2.2.1)), rfl, rfl, rfl, rfl, rfl⟩, ⟨hw, hmp, hry, hn64, hn0, hM, hgo⟩⟩, by rw [ht]; exact hP, hD⟩, hS.F ht⟩) hS.2.2 d_RF_put_53
      · refine lv_iload_n hx hb d_RF_put_30 rfl (lv_at hl 2 rfl) ?_
        refine lv_iload hx hb d_RF_put_31 (lv_at hl 4 rfl) ?_
        refine lv_icmp_ne (tgt := 38) hx hb d_RF_put_33 (by decide) (fun c_19 => ?_) (fun c_19 => ?_)
        · refine lv_aload_n hx hb d_RF_put_38 rfl (lv_at hl 0 rfl) ?_
          refine vp_callSi (va_Run.run (rf_runV (As := []) (rest := []) S0 ml_RF_25 (c_RF_least l D x wa ma wc (nI n) ry cW cM wf mf L f) hE (va_recv hK hP (ci := 3) (q0 := 0) rfl rfl) hP ⟨rfl, rfl, Nat.le_of_ble_eq_true rfl, Nat.le_of_ble_eq_true rfl⟩ rfl hl.1 rfl (Nat.le_of_ble_eq_true rfl) d_RF_put_39 ⟨Nat.zero_le _, Nat.zero_le _⟩)) (fun r_20 h_21 => ?_)
          rcases h_21 with ⟨k, hk, ek, hf1, hf2⟩ | ⟨ek, hf1⟩
          · subst ek
            refine lv_istore (lv' := [(5, .int (nI k)), (0, .ref x), (1, .int a1), (2, .int a2), (3, .int b1), (4, .int b2)]) hx hb d_RF_put_42 hl (by decide) rfl (fun ls hl => ?_)
            refine lv_iload hx hb d_RF_put_44 (lv_at hl 0 rfl) ?_
            refine vp_callSi (va_Run.run (rf_runS (As := [.int (nI k)]) (rest := []) S0 ml_RF_29 (c_RF_isNumber l D (x_t cW cM) (nI k)) hE trivial ⟨rfl, rfl, Nat.le_of_ble_eq_true rfl, Nat.le_of_ble_eq_true rfl⟩ rfl hl.1 rfl (Nat.le_of_ble_eq_true rfl) d_RF_put_46 ⟨Nat.zero_le _, Nat.zero_le _⟩)) (fun r_22 h_23 => ?_)
            refine lv_if_ne (tgt := 54) hx hb d_RF_put_49 (by decide) (fun c_24 => ?_) (fun c_24 => absurd ⟨nI_pos' (show k < 2 ^ 31 by omega), nI_le (show k ≤ 63 by omega) (by decide)⟩ (h_23.f c_24))
            refine va_new (ci := 0) (fs := [.int 0, .int 0, .int 0, .int 0]) (C := "RayField$Wall") (T := F_Wall) (N := 4) hx hb hts in_Wall t_Wall tok_Wall hown (hts _ w_15) (hts _ w_52) (hts _ w_3) hK hP hD hS hA rfl (fun j hj => by rcases (show j = 0 ∨ j = 1 ∨ j = 2 ∨ j = 3 by omega) with rfl | rfl | rfl | rfl <;> rfl) (Nat.le_of_ble_eq_true rfl) (Nat.le_of_ble_eq_true rfl) d_RF_put_54 (fun qn H hP hD hS => ?_)
            obtain ⟨hqn, hP, hD⟩ := rf_push hP hD
            refine W.widen (k := 1) (n := 4) (by omega) (by omega) ?_
            have hqL : qn ∈ L ++ [qn] := List.mem_append_right _ (List.mem_singleton.mpr rfl)
            have hqf0 : va_up f qn (e_W (0, 0, 0, 0)) qn = e_W (0, 0, 0, 0) := va_up_self _ _ _
            have hP : va_P D vwCl (x_3 x wa ma wc (nI n) ry cW cM wf mf ++ va_pl (L ++ [qn]) (va_up f qn (e_W (0, 0, 0, 0)))) H := hP
            have hD : va_D A (x_3 x wa ma wc (nI n) ry cW cM wf mf ++ va_pl (L ++ [qn]) (va_up f qn (e_W (0, 0, 0, 0)))) := hD
            refine lv_dup hx hb d_RF_put_57 rfl ?_
            refine lv_iload_n hx hb d_RF_put_58 rfl (lv_at hl 2 rfl) ?_
            refine lv_iload_n hx hb d_RF_put_59 rfl (lv_at hl 3 rfl) ?_
            refine lv_iload_n hx hb d_RF_put_60 rfl (lv_at hl 4 rfl) ?_
            refine lv_iload hx hb d_RF_put_61 (lv_at hl 5 rfl) ?_
            have hFc := rf_poolfree (wc := [(qn, (e_W (0, 0, 0, 0)))]) hD hS hA (rf_mem1 hqL)
            refine va_callv (rf_runI (As := [.int a1, .int a2, .int b1, .int b2]) (rest := [.ref qn]) S0 ml_RF_33 (c_Wall_init l D (x_t cW cM) qn a1 a2 b1 b2 H.size) hE ⟨rfl, rf_pl hP hqL hqf0, rf_D1⟩ ⟨rfl, rfl, Nat.le_of_ble_eq_true rfl, Nat.le_of_ble_eq_true rfl⟩ rfl hl.1 rfl (Nat.le_of_ble_eq_true rfl) d_RF_put_63 ⟨Nat.le_of_ble_eq_true rfl, Nat.le_of_ble_eq_true rfl⟩) hS (fun q _ h => hFc q h) hFc (fun u0 t H1 locs ht hvm hw0 hB hz1 hk1 hS => ?_)
            obtain ⟨hP1, hD1⟩ := hB
            rw [ht] at hP1
            obtain ⟨hP, hD⟩ := rf_pool1 (u := (e_W (a1, a2, b1, b2))) hP hD hqL hk1 hP1
            generalize H1 = H at hP hS ⊢
            rw [bx_uu] at hP hD
            refine W.widen (k := 1) (n := 4) (by omega) (by omega) ?_
            have hP : va_P D vwCl (x_3 x wa ma wc (nI n) ry cW cM wf mf ++ va_pl (L ++ [qn]) (va_up f qn (e_W (a1, a2, b1, b2)))) H := hP
            have hD : va_D A (x_3 x wa ma wc (nI n) ry cW cM wf mf ++ va_pl (L ++ [qn]) (va_up f qn (e_W (a1, a2, b1, b2)))) := hD
            have hqf : va_up f qn (e_W (a1, a2, b1, b2)) qn = e_W (a1, a2, b1, b2) := va_up_self _ _ _
            have hcn := rf_CF.new (e := e_W (a1, a2, b1, b2)) hc0 hqn
            obtain ⟨hw1, hmp1, hry1, _, _, hM1, _⟩ := id hcn
            refine lv_astore (lv' := [(6, .ref qn), (5, .int (nI k)), (0, .ref x), (1, .int a1), (2, .int a2), (3, .int b1), (4, .int b2)]) hx hb d_RF_put_66 hl (by decide) rfl (fun ls hl => ?_)
            refine lv_aload_n hx hb d_RF_put_68 rfl (lv_at hl 2 rfl) ?_
            refine lv_aload hx hb d_RF_put_69 (lv_at hl 0 rfl) ?_
            refine vp_callSi (va_Run.run (rf_runV (As := [.ref qn]) (rest := []) S0 ml_RF_36 (c_RF_clashes l D x wa ma wc (nI n) ry cW cM wf mf (L ++ [qn]) (va_up f qn (e_W (a1, a2, b1, b2))) wl hw1 qn (a1, a2, b1, b2) hqL hqf) hE (va_recv hK hP (ci := 3) (q0 := 0) rfl rfl) hP ⟨rfl, rfl, Nat.le_of_ble_eq_true rfl, Nat.le_of_ble_eq_true rfl⟩ rfl hl.1 rfl (Nat.le_of_ble_eq_true rfl) d_RF_put_71 ⟨Nat.le_of_ble_eq_true rfl, Nat.le_of_ble_eq_true rfl⟩)) (fun r_25 h_26 => ?_)
            refine lv_if_eq (tgt := 79) hx hb d_RF_put_74 (by decide) (fun c_27 => ?_) (fun c_27 => ?_)
            · refine lv_aload_n hx hb d_RF_put_79 rfl (lv_at hl 2 rfl) ?_
              refine va_get (D := D) (ci := 3) (v := .ref wa) (C := "RayField") (T := F_RF) (N := 5) hx hb hts in_RF hown hK hP 0 rfl rfl 0 (by decide) (hts _ w_19) (fun _ h9 => h9) rfl d_RF_put_80 ?_
              refine lv_iload hx hb d_RF_put_83 (lv_at hl 1 rfl) ?_
              refine lv_aload hx hb d_RF_put_85 (lv_at hl 0 rfl) ?_
              obtain ⟨kq, hkq⟩ := va_pl_get (X := x_3 x wa ma wc (nI n) ry cW cM wf mf) (f := (va_up f qn (e_W (a1, a2, b1, b2)))) hqL
              rw [hqf] at hkq
              refine rf_astq (r := ("RayField$Wall", F_Wall, 4)) hx hb hK hP hD hS 1 0 kq 0 rfl rfl hkq rfl hk (by decide) d_RF_put_87 (fun H locs hP hD hS => ?_)
              have hP : va_P D vwCl (x_3 x wa ma wc (nI n) ry cW cM (va_up wf k (some qn)) mf ++ va_pl (L ++ [qn]) (va_up f qn (e_W (a1, a2, b1, b2)))) H := hP
              have hD : va_D A (x_3 x wa ma wc (nI n) ry cW cM (va_up wf k (some qn)) mf ++ va_pl (L ++ [qn]) (va_up f qn (e_W (a1, a2, b1, b2)))) := hD
              have hw2 := hw1.put (k := k) hqL hqf (hw.fresh hqn)
              refine lv_aload_n hx hb d_RF_put_88 rfl (lv_at hl 2 rfl) ?_
              refine lv_dup hx hb d_RF_put_89 rfl ?_
              refine va_get (D := D) (ci := 3) (v := .int wc) (C := "RayField") (T := F_RF) (N := 5) hx hb hts in_RF hown hK hP 0 rfl rfl 1 (by decide) (hts _ w_20) (fun _ h9 => h9) rfl d_RF_put_90 ?_
              refine lv_iconst (v := 1) hx hb d_RF_put_93 (by decide) ?_
              refine lv_iadd hx hb d_RF_put_94 ?_
              refine va_put (D := D) (ci := 3) (v := .int (wc + 1)) (ty := .int) (C := "RayField") (T := F_RF) (N := 5) hx hb hts in_RF t_RF tok_RF nn_RF hown hK hP hD hS 0 rfl rfl 1 (by decide) (hts _ w_20) (fun _ h9 => h9) rfl (by decide +kernel) rfl rfl (Nat.le_of_ble_eq_true rfl) d_RF_put_95 (fun H locs hP hD hS => ?_)
              have hP : va_P D vwCl (x_3 x wa ma (wc + 1) (nI n) ry cW cM (va_up wf k (some qn)) mf ++ va_pl (L ++ [qn]) (va_up f qn (e_W (a1, a2, b1, b2)))) H := hP
              have hD : va_D A (x_3 x wa ma (wc + 1) (nI n) ry cW cM (va_up wf k (some qn)) mf ++ va_pl (L ++ [qn]) (va_up f qn (e_W (a1, a2, b1, b2)))) := hD
              refine lv_aload_n hx hb d_RF_put_98 rfl (lv_at hl 2 rfl) ?_
              have hFc := rf_freeW hD hS hA
              refine va_callv (rf_runV (As := []) (rest := []) S0 ml_RF_44 (c_RF_meetAgain l D x wa ma (wc + 1) (nI n) ry cW cM (va_up wf k (some qn)) mf (L ++ [qn]) (va_up f qn (e_W (a1, a2, b1, b2))) (va_up wl k (some (a1, a2, b1, b2))) ra hw2 hmp1 hry1 H.size) hE (va_recv hK hP (ci := 3) (q0 := 0) rfl rfl) ⟨rfl, hP, hD.weaken (fun _ _ _ _ => trivial)⟩ ⟨rfl, rfl, Nat.le_of_ble_eq_true rfl, Nat.le_of_ble_eq_true rfl⟩ rfl hl.1 rfl (Nat.le_of_ble_eq_true rfl) d_RF_put_99 ⟨show 1 + 64 ≤ 65 by decide, show 4 + 320 ≤ 324 by decide⟩) hS (fun q _ h => hFc q h) hFc (fun u t H1 locs ht hvm hu hB hz1 hk1 hS => ?_)
              obtain ⟨hP, hD1⟩ := hB
              rw [ht] at hP
              have hD := hD1.weaken (fun k q _ h => hFc q.1 h)
              generalize H1 = H at hP hS ⊢
              obtain ⟨L9, f9, mf9, n9, g9⟩ := u
              have hcf := rf_CF.mk9 hw2 hry1 hu
              dsimp only at hcf hP hD
              have hP : va_P D vwCl (x_3 x wa ma (wc + 1) (nI n9) ry cW cM (va_up wf k (some qn)) mf9 ++ va_pl L9 f9) H := hP
              have hD : va_D A (x_3 x wa ma (wc + 1) (nI n9) ry cW cM (va_up wf k (some qn)) mf9 ++ va_pl L9 f9) := hD
              refine lv_iload hx hb d_RF_put_102 (lv_at hl 1 rfl) ?_
              refine W.widen (k := 65) (n := 324) (by omega) (by omega) ?_
              exact W.iret (v := nI k) hx hb hr (fun t ht hW => ⟨⟨_, (wc + 1, ry, ra, (va_up wf k (some qn)), (va_up wl k (some (a1, a2, b1, b2))), L9, f9, mf9, n9, g9), rfl, ⟨Or.inl ⟨k, ⟨(h_2.t c_3), (h_5.t c_6), (fun z => c_19 z.2), hk, (hw.iff hk).mp hf1, fun j hj z => hf2 j hj ((hw.iff (by omega)).mpr z), (h_26.f c_27)⟩, rfl, rfl, rfl, rfl, rfl⟩, hcf⟩, by rw [ht]; exact hP, hD⟩, hS.F ht⟩) hS.2.2 d_RF_put_104
            · refine lv_iconst (v := -1) hx hb d_RF_put_77 (by decide) ?_
              refine W.widen (k := 65) (n := 324) (by omega) (by omega) ?_
              exact W.iret (v := (-1)) hx hb hr (fun t ht hW => ⟨⟨_, (wc, ry, ra, wf, wl, (L ++ [qn]), (va_up f qn (e_W (a1, a2, b1, b2))), mf, n, g), rfl, ⟨Or.inr ⟨(fun k h => h.2.2.2.2.2.2 (h_26.t c_27)), rfl, rfl, rfl, rfl, rfl⟩, hcn⟩, by rw [ht]; exact hP, hD⟩, hS.F ht⟩) hS.2.2 d_RF_put_78
          · subst ek
            refine lv_istore (lv' := [(5, .int (-1)), (0, .ref x), (1, .int a1), (2, .int a2), (3, .int b1), (4, .int b2)]) hx hb d_RF_put_42 hl (by decide) rfl (fun ls hl => ?_)
            refine lv_iload hx hb d_RF_put_44 (lv_at hl 0 rfl) ?_
            refine vp_callSi (va_Run.run (rf_runS (As := [.int (-1)]) (rest := []) S0 ml_RF_29 (c_RF_isNumber l D (x_t cW cM) (-1)) hE trivial ⟨rfl, rfl, Nat.le_of_ble_eq_true rfl, Nat.le_of_ble_eq_true rfl⟩ rfl hl.1 rfl (Nat.le_of_ble_eq_true rfl) d_RF_put_46 ⟨Nat.zero_le _, Nat.zero_le _⟩)) (fun r_28 h_29 => ?_)
            refine lv_if_ne (tgt := 54) hx hb d_RF_put_49 (by decide) (fun c_30 => absurd (h_29.t c_30).1 (by decide)) (fun c_30 => ?_)
            refine lv_iconst (v := -1) hx hb d_RF_put_52 (by decide) ?_
            refine W.widen (k := 65) (n := 324) (by omega) (by omega) ?_
            exact W.iret (v := (-1)) hx hb hr (fun t ht hW => ⟨⟨_, (wc, ry, ra, wf, wl, L, f, mf, n, g), rfl, ⟨Or.inr ⟨(fun k h => hf1 k h.2.2.2.1 ((hw.iff h.2.2.2.1).mpr h.2.2.2.2.1)), rfl, rfl, rfl, rfl, rfl⟩, ⟨hw, hmp, hry, hn64, hn0, hM, hgo⟩⟩, by rw [ht]; exact hP, hD⟩, hS.F ht⟩) hS.2.2 d_RF_put_53
        · refine lv_iconst (v := -1) hx hb d_RF_put_36 (by decide) ?_
          refine W.widen (k := 65) (n := 324) (by omega) (by omega) ?_
          exact W.iret (v := (-1)) hx hb hr (fun t ht hW => ⟨⟨_, (wc, ry, ra, wf, wl, L, f, mf, n, g), rfl, ⟨Or.inr ⟨(fun k h => h.2.2.1 ⟨c_7, c_19⟩), rfl, rfl, rfl, rfl, rfl⟩, ⟨hw, hmp, hry, hn64, hn0, hM, hgo⟩⟩, by rw [ht]; exact hP, hD⟩, hS.F ht⟩) hS.2.2 d_RF_put_37
    · refine lv_iconst (v := -1) hx hb d_RF_put_23 (by decide) ?_
      refine W.widen (k := 65) (n := 324) (by omega) (by omega) ?_
      exact W.iret (v := (-1)) hx hb hr (fun t ht hW => ⟨⟨_, (wc, ry, ra, wf, wl, L, f, mf, n, g), rfl, ⟨Or.inr ⟨(fun k h => (h_5.f c_6) h.2.1), rfl, rfl, rfl, rfl, rfl⟩, ⟨hw, hmp, hry, hn64, hn0, hM, hgo⟩⟩, by rw [ht]; exact hP, hD⟩, hS.F ht⟩) hS.2.2 d_RF_put_24
set_option maxHeartbeats 4000000 in
set_option maxRecDepth 100000 in
theorem c_RF_ray (l : Launch) (D : va_G) (x wa ma : Nat) (wc mc : Int32) (ry : Option Nat) (cW cM : ClassId) (wf mf : Nat → Option Nat) (L : List Nat) (f : Nat → va_E) (wl : Nat → Option Q4) (ra : Q4) (n : Nat) (g : Nat → Nat) (hc : rf_CF wl ra ry wf mf L f n g) (a1 a2 b1 b2 : Int32) (sz : Nat) : Met l y_RF_ray (.code y_RF_ray b_RF_ray 5 (some (.boolean)) :: BIG) { frames := 5, cells := 65, slots := 324, locals := 200 } (rf_Pc D (x_t cW cM) [.ref x, .int a1, .int a2, .int b1, .int b2] (fun h => h.size = sz ∧ va_P D vwCl (x_3 x wa ma wc (nI n) ry cW cM wf mf ++ va_pl L f) h ∧ va_D (fun _ => True) (x_3 x wa ma wc (nI n) ry cW cM wf mf ++ va_pl L f))) (va_Qi (S := Int32 × Option Nat × Q4 × (Nat → Option Nat) × (Nat → Option Q4) × List Nat × (Nat → va_E) × (Nat → Option Nat) × Nat × (Nat → Nat)) (fun r u => ((m_place a1 a2 4000 ∧ m_place b1 b2 20000 ∧ ¬ (b1 = 0 ∧ b2 = 0) ∧ r = 1 ∧ u.2.2.2.2.1 = wl ∧ u.1 = wc ∧ (∃ q, u.2.1 = some q) ∧ u.2.2.1 = (a1, a2, b1, b2)) ∨ (¬ (m_place a1 a2 4000 ∧ m_place b1 b2 20000 ∧ ¬ (b1 = 0 ∧ b2 = 0)) ∧ r = 0 ∧ u.2.2.2.2.1 = wl ∧ u.1 = wc ∧ u.2.1 = ry ∧ u.2.2.1 = ra)) ∧ rf_CF u.2.2.2.2.1 u.2.2.1 u.2.1 u.2.2.2.1 u.2.2.2.2.2.2.2.1 u.2.2.2.2.2.1 u.2.2.2.2.2.2.1 u.2.2.2.2.2.2.2.2.1 u.2.2.2.2.2.2.2.2.2) (fun u t => va_P D vwCl (x_3 x wa ma u.1 (nI u.2.2.2.2.2.2.2.2.1) u.2.1 cW cM u.2.2.2.1 u.2.2.2.2.2.2.2.1 ++ va_pl u.2.2.2.2.2.1 u.2.2.2.2.2.2.1) t.heap ∧ va_D (va_A (x_3 x wa ma wc (nI n) ry cW cM wf mf ++ va_pl L f) sz) (x_3 x wa ma u.1 (nI u.2.2.2.2.2.2.2.2.1) u.2.1 cW cM u.2.2.2.1 u.2.2.2.2.2.2.2.1 ++ va_pl u.2.2.2.2.2.1 u.2.2.2.2.2.2.1)) (va_A (x_3 x wa ma wc (nI n) ry cW cM wf mf ++ va_pl L f) sz)) 65 324 (va_A (x_3 x wa ma wc (nI n) ry cW cM wf mf ++ va_pl L f) sz) := by
  refine Met.ofW (cc := b_RF_ray) (maxL := 5) (ret := (some (.boolean))) (by decide) rfl ?_
  intro p e s m args below meth c s₁ B hml hv
  obtain ⟨rfl, hE, hP⟩ := hv
  have hx := B.exec
  have hb := B.bytes
  have hr := B.returns
  have hts : ∀ w ∈ BIG, w.before [.ref x, .int a1, .int a2, .int b1, .int b2].toArray s = true := fun w h => atoms_spec (ws := .code y_RF_ray b_RF_ray 5 (some (.boolean)) :: BIG) B.pre w (List.mem_cons_of_mem _ h)
  have hown : s.vm.findClass "RayField" = some m.cls := findClass_of_methodNamed B.named
  have hlocks := B.notSynchronized
  have hK := hE.2
  have S0 : CallFix p m c b_RF_ray 5 s [.ref x, .int a1, .int a2, .int b1, .int b2].toArray BIG "RayField" := ⟨hx, hb, hml, hown, hts⟩
  have hl := lv_entry ([.ref x, .int a1, .int a2, .int b1, .int b2]) (n := 5) (Nat.le_of_ble_eq_true rfl)
  rw [lg_entry_eq]
  generalize (lg_sl ([.ref x, .int a1, .int a2, .int b1, .int b2]) ++ List.replicate (5 - (lg_sl ([.ref x, .int a1, .int a2, .int b1, .int b2])).length) Slot.unset).toArray = ls at hl ⊢
  have hl : lv_has ls 5 [(0, .ref x), (1, .int a1), (2, .int a2), (3, .int b1), (4, .int b2)] := hl
  obtain ⟨hsz, hP, hD0⟩ := hP
  subst hsz
  have hD := hD0.self (sz := s.heap.size)
  generalize hAe : va_A (x_3 x wa ma wc (nI n) ry cW cM wf mf ++ va_pl L f) s.heap.size = A at hD ⊢
  have hA : ∀ q : Nat, s.heap.size ≤ q → A q := fun q h => by rw [← hAe]; exact Or.inr h
  obtain ⟨H, hH⟩ : ∃ H : Heap, H = s.heap := ⟨_, rfl⟩
  refine rf_heap hH ?_
  have hS : va_S A s.heap H [] := by rw [hH]; exact va_S.rf
  have hP : va_P D vwCl (x_3 x wa ma wc (nI n) ry cW cM wf mf ++ va_pl L f) H := by rw [hH]; exact hP
  obtain ⟨hw, hmp, hry, hn64, hn0, hM, hgo⟩ := hc
  refine lv_iload_n hx hb d_RF_ray_0 rfl (lv_at hl 1 rfl) ?_
  refine lv_iload_n hx hb d_RF_ray_1 rfl (lv_at hl 2 rfl) ?_
  refine lv_sipush (v := 4000) hx hb d_RF_ray_2 (by decide) ?_
  refine vp_callSi (va_Run.run (rf_runS (As := [.int a1, .int a2, .int 4000]) (rest := []) S0 ml_RF_21 (c_RF_isPlace l D (x_t cW cM) a1 a2 4000) hE trivial ⟨rfl, rfl, Nat.le_of_ble_eq_true rfl, Nat.le_of_ble_eq_true rfl⟩ rfl hl.1 rfl (Nat.le_of_ble_eq_true rfl) d_RF_ray_5 ⟨Nat.zero_le _, Nat.zero_le _⟩)) (fun r_1 h_2 => ?_)
  refine lv_if_eq (tgt := 23) hx hb d_RF_ray_8 (by decide) (fun c_3 => ?_) (fun c_3 => ?_)
  · refine lv_iconst (v := 0) hx hb d_RF_ray_23 (by decide) ?_
    refine W.widen (k := 65) (n := 324) (by omega) (by omega) ?_
    exact W.zret (v := 0) (ty := .boolean) hx hb hr rfl (fun t ht hW => ⟨⟨_, (wc, ry, ra, wf, wl, L, f, mf, n, g), rfl, ⟨Or.inr ⟨(fun h => (h_2.f c_3) h.1), rfl, rfl, rfl, rfl, rfl⟩, ⟨hw, hmp, hry, hn64, hn0, hM, hgo⟩⟩, by rw [ht]; exact hP, hD⟩, hS.F ht⟩) hS.2.2 d_RF_ray_24
  · refine lv_iload_n hx hb d_RF_ray_11 rfl (lv_at hl 3 rfl) ?_
    refine lv_iload hx hb d_RF_ray_12 (lv_at hl 4 rfl) ?_
    refine lv_sipush (v := 20000) hx hb d_RF_ray_14 (by decide) ?_
    refine vp_callSi (va_Run.run (rf_runS (As := [.int b1, .int b2, .int 20000]) (rest := []) S0 ml_RF_21 (c_RF_isPlace l D (x_t cW cM) b1 b2 20000) hE trivial ⟨rfl, rfl, Nat.le_of_ble_eq_true rfl, Nat.le_of_ble_eq_true rfl⟩ rfl hl.1 rfl (Nat.le_of_ble_eq_true rfl) d_RF_ray_17 ⟨Nat.zero_le _, Nat.zero_le _⟩)) (fun r_4 h_5 => ?_)
    refine lv_if_ne (tgt := 25) hx hb d_RF_ray_20 (by decide) (fun c_6 => ?_) (fun c_6 => ?_)
    · refine lv_iload_n hx hb d_RF_ray_25 rfl (lv_at hl 3 rfl) ?_
      refine lv_if_ne (tgt := 36) hx hb d_RF_ray_26 (by decide) (fun c_7 => ?_) (fun c_7 => ?_)
      · refine lv_aload_n hx hb d_RF_ray_36 rfl (lv_at hl 0 rfl) ?_
        refine va_new (ci := 1) (fs := [.int 0, .int 0, .int 0, .int 0]) (C := "RayField$Ray") (T := F_Ray) (N := 4) hx hb hts in_Ray t_Ray tok_Ray hown (hts _ w_192) (hts _ w_193) (hts _ w_6) hK hP hD hS hA rfl (fun j hj => by rcases (show j = 0 ∨ j = 1 ∨ j = 2 ∨ j = 3 by omega) with rfl | rfl | rfl | rfl <;> rfl) (Nat.le_of_ble_eq_true rfl) (Nat.le_of_ble_eq_true rfl) d_RF_ray_37 (fun qn H hP hD hS => ?_)
        obtain ⟨hqn, hP, hD⟩ := rf_push hP hD
        refine W.widen (k := 1) (n := 4) (by omega) (by omega) ?_
        have hqL : qn ∈ L ++ [qn] := List.mem_append_right _ (List.mem_singleton.mpr rfl)
        have hqf0 : va_up f qn (e_R (0, 0, 0, 0)) qn = e_R (0, 0, 0, 0) := va_up_self _ _ _
        have hP : va_P D vwCl (x_3 x wa ma wc (nI n) ry cW cM wf mf ++ va_pl (L ++ [qn]) (va_up f qn (e_R (0, 0, 0, 0)))) H := hP
        have hD : va_D A (x_3 x wa ma wc (nI n) ry cW cM wf mf ++ va_pl (L ++ [qn]) (va_up f qn (e_R (0, 0, 0, 0)))) := hD
        refine lv_dup hx hb d_RF_ray_40 rfl ?_
        refine lv_iload_n hx hb d_RF_ray_41 rfl (lv_at hl 1 rfl) ?_
        refine lv_iload_n hx hb d_RF_ray_42 rfl (lv_at hl 2 rfl) ?_
        refine lv_iload_n hx hb d_RF_ray_43 rfl (lv_at hl 3 rfl) ?_
        refine lv_iload hx hb d_RF_ray_44 (lv_at hl 4 rfl) ?_
        have hFc := rf_poolfree (wc := [(qn, (e_R (0, 0, 0, 0)))]) hD hS hA (rf_mem1 hqL)
        refine va_callv (rf_runI (As := [.int a1, .int a2, .int b1, .int b2]) (rest := [.ref qn, .ref x]) S0 ml_RF_56 (c_Ray_init l D (x_t cW cM) qn a1 a2 b1 b2 H.size) hE ⟨rfl, rf_pl hP hqL hqf0, rf_D1⟩ ⟨rfl, rfl, Nat.le_of_ble_eq_true rfl, Nat.le_of_ble_eq_true rfl⟩ rfl hl.1 rfl (Nat.le_of_ble_eq_true rfl) d_RF_ray_46 ⟨Nat.le_of_ble_eq_true rfl, Nat.le_of_ble_eq_true rfl⟩) hS (fun q _ h => hFc q h) hFc (fun u0 t H1 locs ht hvm hw0 hB hz1 hk1 hS => ?_)
        obtain ⟨hP1, hD1⟩ := hB
        rw [ht] at hP1
        obtain ⟨hP, hD⟩ := rf_pool1 (u := (e_R (a1, a2, b1, b2))) hP hD hqL hk1 hP1
        generalize H1 = H at hP hS ⊢
        rw [bx_uu] at hP hD
        refine W.widen (k := 1) (n := 4) (by omega) (by omega) ?_
        have hP : va_P D vwCl (x_3 x wa ma wc (nI n) ry cW cM wf mf ++ va_pl (L ++ [qn]) (va_up f qn (e_R (a1, a2, b1, b2)))) H := hP
        have hD : va_D A (x_3 x wa ma wc (nI n) ry cW cM wf mf ++ va_pl (L ++ [qn]) (va_up f qn (e_R (a1, a2, b1, b2)))) := hD
        have hqf : va_up f qn (e_R (a1, a2, b1, b2)) qn = e_R (a1, a2, b1, b2) := va_up_self _ _ _
        have hkp : rf_keep L f (L ++ [qn]) (va_up f qn (e_R (a1, a2, b1, b2))) := rf_keep.new hqn
        have hw1 := hw.keep hkp
        have hmp1 := hmp.keep (e := e_R (a1, a2, b1, b2)) hqn
        have hry1 : ∀ q, some qn = some q → q ∈ L ++ [qn] ∧ va_up f qn (e_R (a1, a2, b1, b2)) q = e_R (a1, a2, b1, b2) := fun q z => by cases z; exact ⟨hqL, hqf⟩
        refine va_put (D := D) (ci := 3) (v := .ref qn) (ty := (.object "RayField$Ray")) (C := "RayField") (T := F_RF) (N := 5) hx hb hts in_RF t_RF tok_RF nn_RF hown hK hP hD hS 0 rfl rfl 2 (by decide) (hts _ w_21) (fun _ h9 => h9) rfl (by decide +kernel) rfl rfl (Nat.le_of_ble_eq_true rfl) d_RF_ray_49 (fun H locs hP hD hS => ?_)
        have hP : va_P D vwCl (x_3 x wa ma wc (nI n) (some qn) cW cM wf mf ++ va_pl (L ++ [qn]) (va_up f qn (e_R (a1, a2, b1, b2)))) H := hP
        have hD : va_D A (x_3 x wa ma wc (nI n) (some qn) cW cM wf mf ++ va_pl (L ++ [qn]) (va_up f qn (e_R (a1, a2, b1, b2)))) := hD
        refine lv_aload_n hx hb d_RF_ray_52 rfl (lv_at hl 0 rfl) ?_
        have hFc := rf_freeW hD hS hA
        refine va_callv (rf_runV (As := []) (rest := []) S0 ml_RF_44 (c_RF_meetAgain l D x wa ma wc (nI n) (some qn) cW cM wf mf (L ++ [qn]) (va_up f qn (e_R (a1, a2, b1, b2))) wl (a1, a2, b1, b2) hw1 hmp1 hry1 H.size) hE (va_recv hK hP (ci := 3) (q0 := 0) rfl rfl) ⟨rfl, hP, hD.weaken (fun _ _ _ _ => trivial)⟩ ⟨rfl, rfl, Nat.le_of_ble_eq_true rfl, Nat.le_of_ble_eq_true rfl⟩ rfl hl.1 rfl (Nat.le_of_ble_eq_true rfl) d_RF_ray_53 ⟨show 1 + 64 ≤ 65 by decide, show 4 + 320 ≤ 324 by decide⟩) hS (fun q _ h => hFc q h) hFc (fun u t H1 locs ht hvm hu hB hz1 hk1 hS => ?_)
        obtain ⟨hP, hD1⟩ := hB
        rw [ht] at hP
        have hD := hD1.weaken (fun k q _ h => hFc q.1 h)
        generalize H1 = H at hP hS ⊢
        obtain ⟨L9, f9, mf9, n9, g9⟩ := u
        have hcf := rf_CF.mk9 hw1 hry1 hu
        dsimp only at hcf hP hD
        have hP : va_P D vwCl (x_3 x wa ma wc (nI n9) (some qn) cW cM wf mf9 ++ va_pl L9 f9) H := hP
        have hD : va_D A (x_3 x wa ma wc (nI n9) (some qn) cW cM wf mf9 ++ va_pl L9 f9) := hD
        refine lv_iconst (v := 1) hx hb d_RF_ray_56 (by decide) ?_
        refine W.widen (k := 65) (n := 324) (by omega) (by omega) ?_
        exact W.zret (v := 1) (ty := .boolean) hx hb hr rfl (fun t ht hW => ⟨⟨_, (wc, (some qn), (a1, a2, b1, b2), wf, wl, L9, f9, mf9, n9, g9), rfl, ⟨Or.inl ⟨(h_2.t c_3), (h_5.t c_6), (fun z => c_7 z.1), rfl, rfl, rfl, ⟨_, rfl⟩, rfl⟩, hcf⟩, by rw [ht]; exact hP, hD⟩, hS.F ht⟩) hS.2.2 d_RF_ray_57
      · refine lv_iload hx hb d_RF_ray_29 (lv_at hl 4 rfl) ?_
        refine lv_if_ne (tgt := 36) hx hb d_RF_ray_31 (by decide) (fun c_8 => ?_) (fun c_8 => ?_)
        · refine lv_aload_n hx hb d_RF_ray_36 rfl (lv_at hl 0 rfl) ?_
          refine va_new (ci := 1) (fs := [.int 0, .int 0, .int 0, .int 0]) (C := "RayField$Ray") (T := F_Ray) (N := 4) hx hb hts in_Ray t_Ray tok_Ray hown (hts _ w_192) (hts _ w_193) (hts _ w_6) hK hP hD hS hA rfl (fun j hj => by rcases (show j = 0 ∨ j = 1 ∨ j = 2 ∨ j = 3 by omega) with rfl | rfl | rfl | rfl <;> rfl) (Nat.le_of_ble_eq_true rfl) (Nat.le_of_ble_eq_true rfl) d_RF_ray_37 (fun qn H hP hD hS => ?_)
          obtain ⟨hqn, hP, hD⟩ := rf_push hP hD
          refine W.widen (k := 1) (n := 4) (by omega) (by omega) ?_
          have hqL : qn ∈ L ++ [qn] := List.mem_append_right _ (List.mem_singleton.mpr rfl)
          have hqf0 : va_up f qn (e_R (0, 0, 0, 0)) qn = e_R (0, 0, 0, 0) := va_up_self _ _ _
          have hP : va_P D vwCl (x_3 x wa ma wc (nI n) ry cW cM wf mf ++ va_pl (L ++ [qn]) (va_up f qn (e_R (0, 0, 0, 0)))) H := hP
          have hD : va_D A (x_3 x wa ma wc (nI n) ry cW cM wf mf ++ va_pl (L ++ [qn]) (va_up f qn (e_R (0, 0, 0, 0)))) := hD
          refine lv_dup hx hb d_RF_ray_40 rfl ?_
          refine lv_iload_n hx hb d_RF_ray_41 rfl (lv_at hl 1 rfl) ?_
          refine lv_iload_n hx hb d_RF_ray_42 rfl (lv_at hl 2 rfl) ?_
          refine lv_iload_n hx hb d_RF_ray_43 rfl (lv_at hl 3 rfl) ?_
          refine lv_iload hx hb d_RF_ray_44 (lv_at hl 4 rfl) ?_
          have hFc := rf_poolfree (wc := [(qn, (e_R (0, 0, 0, 0)))]) hD hS hA (rf_mem1 hqL)
          refine va_callv (rf_runI (As := [.int a1, .int a2, .int b1, .int b2]) (rest := [.ref qn, .ref x]) S0 ml_RF_56 (c_Ray_init l D (x_t cW cM) qn a1 a2 b1 b2 H.size) hE ⟨rfl, rf_pl hP hqL hqf0, rf_D1⟩ ⟨rfl, rfl, Nat.le_of_ble_eq_true rfl, Nat.le_of_ble_eq_true rfl⟩ rfl hl.1 rfl (Nat.le_of_ble_eq_true rfl) d_RF_ray_46 ⟨Nat.le_of_ble_eq_true rfl, Nat.le_of_ble_eq_true rfl⟩) hS (fun q _ h => hFc q h) hFc (fun u0 t H1 locs ht hvm hw0 hB hz1 hk1 hS => ?_)
          obtain ⟨hP1, hD1⟩ := hB
          rw [ht] at hP1
          obtain ⟨hP, hD⟩ := rf_pool1 (u := (e_R (a1, a2, b1, b2))) hP hD hqL hk1 hP1
          generalize H1 = H at hP hS ⊢
          rw [bx_uu] at hP hD
          refine W.widen (k := 1) (n := 4) (by omega) (by omega) ?_
          have hP : va_P D vwCl (x_3 x wa ma wc (nI n) ry cW cM wf mf ++ va_pl (L ++ [qn]) (va_up f qn (e_R (a1, a2, b1, b2)))) H := hP
          have hD : va_D A (x_3 x wa ma wc (nI n) ry cW cM wf mf ++ va_pl (L ++ [qn]) (va_up f qn (e_R (a1, a2, b1, b2)))) := hD
          have hqf : va_up f qn (e_R (a1, a2, b1, b2)) qn = e_R (a1, a2, b1, b2) := va_up_self _ _ _
          have hkp : rf_keep L f (L ++ [qn]) (va_up f qn (e_R (a1, a2, b1, b2))) := rf_keep.new hqn
          have hw1 := hw.keep hkp
          have hmp1 := hmp.keep (e := e_R (a1, a2, b1, b2)) hqn
          have hry1 : ∀ q, some qn = some q → q ∈ L ++ [qn] ∧ va_up f qn (e_R (a1, a2, b1, b2)) q = e_R (a1, a2, b1, b2) := fun q z => by cases z; exact ⟨hqL, hqf⟩
          refine va_put (D := D) (ci := 3) (v := .ref qn) (ty := (.object "RayField$Ray")) (C := "RayField") (T := F_RF) (N := 5) hx hb hts in_RF t_RF tok_RF nn_RF hown hK hP hD hS 0 rfl rfl 2 (by decide) (hts _ w_21) (fun _ h9 => h9) rfl (by decide +kernel) rfl rfl (Nat.le_of_ble_eq_true rfl) d_RF_ray_49 (fun H locs hP hD hS => ?_)
          have hP : va_P D vwCl (x_3 x wa ma wc (nI n) (some qn) cW cM wf mf ++ va_pl (L ++ [qn]) (va_up f qn (e_R (a1, a2, b1, b2)))) H := hP
          have hD : va_D A (x_3 x wa ma wc (nI n) (some qn) cW cM wf mf ++ va_pl (L ++ [qn]) (va_up f qn (e_R (a1, a2, b1, b2)))) := hD
          refine lv_aload_n hx hb d_RF_ray_52 rfl (lv_at hl 0 rfl) ?_
          have hFc := rf_freeW hD hS hA
          refine va_callv (rf_runV (As := []) (rest := []) S0 ml_RF_44 (c_RF_meetAgain l D x wa ma wc (nI n) (some qn) cW cM wf mf (L ++ [qn]) (va_up f qn (e_R (a1, a2, b1, b2))) wl (a1, a2, b1, b2) hw1 hmp1 hry1 H.size) hE (va_recv hK hP (ci := 3) (q0 := 0) rfl rfl) ⟨rfl, hP, hD.weaken (fun _ _ _ _ => trivial)⟩ ⟨rfl, rfl, Nat.le_of_ble_eq_true rfl, Nat.le_of_ble_eq_true rfl⟩ rfl hl.1 rfl (Nat.le_of_ble_eq_true rfl) d_RF_ray_53 ⟨show 1 + 64 ≤ 65 by decide, show 4 + 320 ≤ 324 by decide⟩) hS (fun q _ h => hFc q h) hFc (fun u t H1 locs ht hvm hu hB hz1 hk1 hS => ?_)
          obtain ⟨hP, hD1⟩ := hB
          rw [ht] at hP
          have hD := hD1.weaken (fun k q _ h => hFc q.1 h)
          generalize H1 = H at hP hS ⊢
          obtain ⟨L9, f9, mf9, n9, g9⟩ := u
          have hcf := rf_CF.mk9 hw1 hry1 hu
          dsimp only at hcf hP hD
          have hP : va_P D vwCl (x_3 x wa ma wc (nI n9) (some qn) cW cM wf mf9 ++ va_pl L9 f9) H := hP
          have hD : va_D A (x_3 x wa ma wc (nI n9) (some qn) cW cM wf mf9 ++ va_pl L9 f9) := hD
          refine lv_iconst (v := 1) hx hb d_RF_ray_56 (by decide) ?_
          refine W.widen (k := 65) (n := 324) (by omega) (by omega) ?_
          exact W.zret (v := 1) (ty := .boolean) hx hb hr rfl (fun t ht hW => ⟨⟨_, (wc, (some qn), (a1, a2, b1, b2), wf, wl, L9, f9, mf9, n9, g9), rfl, ⟨Or.inl ⟨(h_2.t c_3), (h_5.t c_6), (fun z => c_8 z.2), rfl, rfl, rfl, ⟨_, rfl⟩, rfl⟩, hcf⟩, by rw [ht]; exact hP, hD⟩, hS.F ht⟩) hS.2.2 d_RF_ray_57
        · refine lv_iconst (v := 0) hx hb d_RF_ray_34 (by decide) ?_
          refine W.widen (k := 65) (n := 324) (by omega) (by omega) ?_
          exact W.zret (v := 0) (ty := .boolean) hx hb hr rfl (fun t ht hW => ⟨⟨_, (wc, ry, ra, wf, wl, L, f, mf, n, g), rfl, ⟨Or.inr ⟨(fun h => h.2.2 ⟨c_7, c_8⟩), rfl, rfl, rfl, rfl, rfl⟩, ⟨hw, hmp, hry, hn64, hn0, hM, hgo⟩⟩, by rw [ht]; exact hP, hD⟩, hS.F ht⟩) hS.2.2 d_RF_ray_35
    · refine lv_iconst (v := 0) hx hb d_RF_ray_23 (by decide) ?_
      refine W.widen (k := 65) (n := 324) (by omega) (by omega) ?_
      exact W.zret (v := 0) (ty := .boolean) hx hb hr rfl (fun t ht hW => ⟨⟨_, (wc, ry, ra, wf, wl, L, f, mf, n, g), rfl, ⟨Or.inr ⟨(fun h => (h_5.f c_6) h.2.1), rfl, rfl, rfl, rfl, rfl⟩, ⟨hw, hmp, hry, hn64, hn0, hM, hgo⟩⟩, by rw [ht]; exact hP, hD⟩, hS.F ht⟩) hS.2.2 d_RF_ray_24
set_option maxHeartbeats 4000000 in
set_option maxRecDepth 100000 in
theorem c_RF_clear (l : Launch) (D : va_G) (x wa ma : Nat) (wc mc : Int32) (ry : Option Nat) (cW cM : ClassId) (wf mf : Nat → Option Nat) (L : List Nat) (f : Nat → va_E) (wl : Nat → Option Q4) (ra : Q4) (n : Nat) (g : Nat → Nat) (hc : rf_CF wl ra ry wf mf L f n g) (sz : Nat) : Met l y_RF_clear (.code y_RF_clear b_RF_clear 2 none :: BIG) { frames := 5, cells := 64, slots := 320, locals := 200 } (rf_Pc D (x_t cW cM) [.ref x] (fun h => h.size = sz ∧ va_P D vwCl (x_3 x wa ma wc (nI n) ry cW cM wf mf ++ va_pl L f) h ∧ va_D (fun _ => True) (x_3 x wa ma wc (nI n) ry cW cM wf mf ++ va_pl L f))) (va_Qv (S := Int32 × Option Nat × Q4 × (Nat → Option Nat) × (Nat → Option Q4) × List Nat × (Nat → va_E) × (Nat → Option Nat) × Nat × (Nat → Nat)) (fun u => (u.2.2.2.2.1 = (fun _ => none) ∧ u.1 = 0 ∧ u.2.1 = ry ∧ u.2.2.1 = ra) ∧ rf_CF u.2.2.2.2.1 u.2.2.1 u.2.1 u.2.2.2.1 u.2.2.2.2.2.2.2.1 u.2.2.2.2.2.1 u.2.2.2.2.2.2.1 u.2.2.2.2.2.2.2.2.1 u.2.2.2.2.2.2.2.2.2) (fun u t => va_P D vwCl (x_3 x wa ma u.1 (nI u.2.2.2.2.2.2.2.2.1) u.2.1 cW cM u.2.2.2.1 u.2.2.2.2.2.2.2.1 ++ va_pl u.2.2.2.2.2.1 u.2.2.2.2.2.2.1) t.heap ∧ va_D (va_A (x_3 x wa ma wc (nI n) ry cW cM wf mf ++ va_pl L f) sz) (x_3 x wa ma u.1 (nI u.2.2.2.2.2.2.2.2.1) u.2.1 cW cM u.2.2.2.1 u.2.2.2.2.2.2.2.1 ++ va_pl u.2.2.2.2.2.1 u.2.2.2.2.2.2.1)) (va_A (x_3 x wa ma wc (nI n) ry cW cM wf mf ++ va_pl L f) sz)) 64 320 (va_A (x_3 x wa ma wc (nI n) ry cW cM wf mf ++ va_pl L f) sz) := by
  refine Met.ofW (cc := b_RF_clear) (maxL := 2) (ret := none) (by decide) rfl ?_
  intro p e s m args below meth c s₁ B hml hv
  obtain ⟨rfl, hE, hP⟩ := hv
  have hx := B.exec
  have hb := B.bytes
  have hr := B.returns
  have hts : ∀ w ∈ BIG, w.before [.ref x].toArray s = true := fun w h => atoms_spec (ws := .code y_RF_clear b_RF_clear 2 none :: BIG) B.pre w (List.mem_cons_of_mem _ h)
  have hown : s.vm.findClass "RayField" = some m.cls := findClass_of_methodNamed B.named
  have hlocks := B.notSynchronized
  have hK := hE.2
  have S0 : CallFix p m c b_RF_clear 2 s [.ref x].toArray BIG "RayField" := ⟨hx, hb, hml, hown, hts⟩
  have hl := lv_entry ([.ref x]) (n := 2) (Nat.le_of_ble_eq_true rfl)
  rw [lg_entry_eq]
  generalize (lg_sl ([.ref x]) ++ List.replicate (2 - (lg_sl ([.ref x])).length) Slot.unset).toArray = ls at hl ⊢
  have hl : lv_has ls 2 [(0, .ref x)] := hl
  obtain ⟨hsz, hP, hD0⟩ := hP
  subst hsz
  have hD := hD0.self (sz := s.heap.size)
  generalize hAe : va_A (x_3 x wa ma wc (nI n) ry cW cM wf mf ++ va_pl L f) s.heap.size = A at hD ⊢
  have hA : ∀ q : Nat, s.heap.size ≤ q → A q := fun q h => by rw [← hAe]; exact Or.inr h
  obtain ⟨H, hH⟩ : ∃ H : Heap, H = s.heap := ⟨_, rfl⟩
  refine rf_heap hH ?_
  have hS : va_S A s.heap H [] := by rw [hH]; exact va_S.rf
  have hP : va_P D vwCl (x_3 x wa ma wc (nI n) ry cW cM wf mf ++ va_pl L f) H := by rw [hH]; exact hP
  obtain ⟨hw, hmp, hry, hn64, hn0, hM, hgo⟩ := hc
  refine lv_iconst (v := 0) hx hb d_RF_clear_0 (by decide) ?_
  refine rf_topi nI_0.symm ?_
  refine lv_istore_n (lv' := [(1, .int (nI 0)), (0, .ref x)]) hx hb d_RF_clear_1 rfl hl (by decide) rfl (fun ls hl => ?_)
  refine rf_loop 2 64 (fun i ls H locs k1 k2 => ∃ wf1 : Nat → Option Nat, lv_has ls 2 [(1, .int (nI i)), (0, .ref x)] ∧ va_P D vwCl (x_3 x wa ma wc (nI n) ry cW cM wf1 mf ++ va_pl L f) H ∧ va_D A (x_3 x wa ma wc (nI n) ry cW cM wf1 mf ++ va_pl L f) ∧ va_S A s.heap H locs ∧ (∀ j, j < i → wf1 j = none) ∧ k1 = 0 ∧ k2 = 0) (fun ls H locs k1 k2 hI => ?_) (fun i ls H locs k1 k2 hi hI hk => ?_) 0 (Nat.zero_le _) ⟨wf, lv_sub hl [0, 1] rfl, hP, hD, hS, fun j hj => absurd hj (Nat.not_lt_zero _), rfl, rfl⟩
  · obtain ⟨wf1, hl, hP, hD, hS, hJ, hk1, hk2⟩ := hI
    subst k1
    subst k2
    have hw2 := rf_walls.none' (L := L) (f := f) hJ
    refine lv_iload_n hx hb d_RF_clear_2 rfl (lv_at hl 0 rfl) ?_
    refine lv_aload_n hx hb d_RF_clear_3 rfl (lv_at hl 1 rfl) ?_
    refine va_get (D := D) (ci := 3) (v := .ref wa) (C := "RayField") (T := F_RF) (N := 5) hx hb hts in_RF hown hK hP 0 rfl rfl 0 (by decide) (hts _ w_19) (fun _ h9 => h9) rfl d_RF_clear_4 ?_
    refine va_alen hx hb hK hP 1 0 rfl rfl (v := nI 64) rfl d_RF_clear_7 ?_
    refine lv_icmp_ge (tgt := 24) hx hb d_RF_clear_8 (by decide) (fun c_1 => ?_) (fun c_1 => absurd (nI_le (Nat.le_refl _) (by decide)) c_1)
    refine lv_aload_n hx hb d_RF_clear_24 rfl (lv_at hl 1 rfl) ?_
    refine lv_iconst (v := 0) hx hb d_RF_clear_25 (by decide) ?_
    refine va_put (D := D) (ci := 3) (v := .int 0) (ty := .int) (C := "RayField") (T := F_RF) (N := 5) hx hb hts in_RF t_RF tok_RF nn_RF hown hK hP hD hS 0 rfl rfl 1 (by decide) (hts _ w_20) (fun _ h9 => h9) rfl (by decide +kernel) rfl rfl (Nat.le_of_ble_eq_true rfl) d_RF_clear_26 (fun H locs hP hD hS => ?_)
    have hP : va_P D vwCl (x_3 x wa ma 0 (nI n) ry cW cM wf1 mf ++ va_pl L f) H := hP
    have hD : va_D A (x_3 x wa ma 0 (nI n) ry cW cM wf1 mf ++ va_pl L f) := hD
    refine lv_aload_n hx hb d_RF_clear_29 rfl (lv_at hl 1 rfl) ?_
    have hFc := rf_freeW hD hS hA
    refine va_callv (rf_runV (As := []) (rest := []) S0 ml_RF_44 (c_RF_meetAgain l D x wa ma 0 (nI n) ry cW cM wf1 mf L f (fun _ => none) ra hw2 hmp hry H.size) hE (va_recv hK hP (ci := 3) (q0 := 0) rfl rfl) ⟨rfl, hP, hD.weaken (fun _ _ _ _ => trivial)⟩ ⟨rfl, rfl, Nat.le_of_ble_eq_true rfl, Nat.le_of_ble_eq_true rfl⟩ rfl hl.1 rfl (Nat.le_of_ble_eq_true rfl) d_RF_clear_30 ⟨Nat.le_of_ble_eq_true rfl, Nat.le_of_ble_eq_true rfl⟩) hS (fun q _ h => hFc q h) hFc (fun u t H1 locs ht hvm hu hB hz1 hk1 hS => ?_)
    obtain ⟨hP, hD1⟩ := hB
    rw [ht] at hP
    have hD := hD1.weaken (fun k q _ h => hFc q.1 h)
    generalize H1 = H at hP hS ⊢
    obtain ⟨L9, f9, mf9, n9, g9⟩ := u
    have hcf := rf_CF.mk9 hw2 hry hu
    dsimp only at hcf hP hD
    have hP : va_P D vwCl (x_3 x wa ma 0 (nI n9) ry cW cM wf1 mf9 ++ va_pl L9 f9) H := hP
    have hD : va_D A (x_3 x wa ma 0 (nI n9) ry cW cM wf1 mf9 ++ va_pl L9 f9) := hD
    refine W.widen (k := 64) (n := 320) (by omega) (by omega) ?_
    exact W.vret hx hb hr (fun t ht hW => ⟨⟨(0, ry, ra, wf1, (fun _ => none), L9, f9, mf9, n9, g9), rfl, ⟨⟨rfl, rfl, rfl, rfl⟩, hcf⟩, by rw [ht]; exact hP, hD⟩, hS.F ht⟩) hS.2.2 d_RF_clear_33
  · obtain ⟨wf1, hl, hP, hD, hS, hJ, hk1, hk2⟩ := hI
    subst k1
    subst k2
    refine lv_iload_n hx hb d_RF_clear_2 rfl (lv_at hl 0 rfl) ?_
    refine lv_aload_n hx hb d_RF_clear_3 rfl (lv_at hl 1 rfl) ?_
    refine va_get (D := D) (ci := 3) (v := .ref wa) (C := "RayField") (T := F_RF) (N := 5) hx hb hts in_RF hown hK hP 0 rfl rfl 0 (by decide) (hts _ w_19) (fun _ h9 => h9) rfl d_RF_clear_4 ?_
    refine va_alen hx hb hK hP 1 0 rfl rfl (v := nI 64) rfl d_RF_clear_7 ?_
    refine lv_icmp_ge (tgt := 24) hx hb d_RF_clear_8 (by decide) (fun c_2 => absurd c_2 (nI_ge hi (by decide))) (fun c_2 => ?_)
    refine lv_aload_n hx hb d_RF_clear_11 rfl (lv_at hl 1 rfl) ?_
    refine va_get (D := D) (ci := 3) (v := .ref wa) (C := "RayField") (T := F_RF) (N := 5) hx hb hts in_RF hown hK hP 0 rfl rfl 0 (by decide) (hts _ w_19) (fun _ h9 => h9) rfl d_RF_clear_12 ?_
    refine lv_iload_n hx hb d_RF_clear_15 rfl (lv_at hl 0 rfl) ?_
    refine lv_null hx hb d_RF_clear_16 ?_
    refine rf_astqN (C := "RayField$Wall") hx hb hK hP hD hS 1 0 rfl rfl hi (by decide) d_RF_clear_17 (fun H locs hP hD hS => ?_)
    have hP : va_P D vwCl (x_3 x wa ma wc (nI n) ry cW cM (va_up wf1 i none) mf ++ va_pl L f) H := hP
    have hD : va_D A (x_3 x wa ma wc (nI n) ry cW cM (va_up wf1 i none) mf ++ va_pl L f) := hD
    refine lv_iinc (v := (nI (i + 1))) (lv' := [(1, .int (nI (i + 1))), (0, .ref x)]) hx hb d_RF_clear_18 hl (k := 0) rfl (nI_1 i) (by decide) rfl (fun ls hl => ?_)
    refine lv_goto (tgt := 2) hx hb d_RF_clear_21 (by decide) ?_
    exact hk _ _ _ _ _ ⟨va_up wf1 i none, lv_sub hl [0, 1] rfl, hP, hD, hS, fun j hj => by by_cases c : j = i <;> first | (subst c; exact va_up_self _ _ _) | (rw [va_up_ne wf1 _ c]; exact hJ j (by omega)), rfl, rfl⟩
end
section
/-! The reference's cells, and what they say. -/
abbrev e_Y (t0 t1 t2 t3 t4 t5 : Nat) (ma ha ex ey dx dy : Int32) (ab be : Int64) (ri : Int32) (o1 o2 : Int64) : va_E := .inr (4, [.int 0, .ref t0, .ref t1, .ref t2, .ref t3, .ref t4, .int ma, .int ha, .int ex, .int ey, .int dx, .int dy, .long ab, .long be, .int ri, .long o1, .long o2, .ref t5])
abbrev e_I (c : ClassId) (f : Nat → Int32) : va_E := .inl (c, 64, .inl f)
abbrev y_7 (y t0 t1 t2 t3 t4 t5 : Nat) (c0 c1 c2 c3 c4 c5 : ClassId) (ma ha ex ey dx dy : Int32) (ab be : Int64) (ri : Int32) (o1 o2 : Int64) (f0 f1 f2 f3 f4 f5 : Nat → Int32) : va_W := [(y, e_Y t0 t1 t2 t3 t4 t5 ma ha ex ey dx dy ab be ri o1 o2), (t0, e_I c0 f0), (t1, e_I c1 f1), (t2, e_I c2 f2), (t3, e_I c3 f3), (t4, e_I c4 f4), (t5, e_I c5 f5)]
abbrev y_t (c0 c1 c2 c3 c4 c5 : ClassId) : List (ClassId × FieldType) := [(c0, .boolean), (c1, .int), (c2, .int), (c3, .int), (c4, .int), (c5, .int)]
/-- the reference's rows hold the walls wl -/
def rf_YF (wl : Nat → Option Q4) (f0 f1 f2 f3 f4 : Nat → Int32) : Prop := ∀ k, k < 64 → (f0 k = 0 ∧ wl k = none) ∨ (f0 k = 1 ∧ wl k = some (f1 k, f2 k, f3 k, f4 k))
theorem rf_YF.zero {wl : Nat → Option Q4} {f0 f1 f2 f3 f4 : Nat → Int32} (h : rf_YF wl f0 f1 f2 f3 f4) {k : Nat} (hk : k < 64) (e : f0 k = 0) : wl k = none := by
  rcases h k hk with ⟨_, h1⟩ | ⟨h1, _⟩
  · exact h1
  · rw [e] at h1; exact absurd h1 (by decide)
theorem rf_YF.one {wl : Nat → Option Q4} {f0 f1 f2 f3 f4 : Nat → Int32} (h : rf_YF wl f0 f1 f2 f3 f4) {k : Nat} (hk : k < 64) (e : ¬ f0 k = 0) : wl k = some (f1 k, f2 k, f3 k, f4 k) := by
  rcases h k hk with ⟨h1, _⟩ | ⟨_, h1⟩
  · exact absurd h1 e
  · exact h1
section RfJoinH
variable {p : Program} {l : Launch} {e : Env} {R : Room} {s : State} {m : MethodId} {args : Array Value} {below : List Frame} {meth : Method} {c : Code} {H : Heap} {locs : List Loc} {cells slots : Nat} {Q : State → Prop} {ls : Array Slot} {pc : Nat}
theorem rf_joinH {st : List Value} (pc2 : Nat) (st2 : List Value) (J : Heap → List Loc → Prop) (hj : ∀ (H : Heap) (locs : List Loc), J H locs → W p l e R s m args below meth c H locs cells slots Q (F0 m pc2 ls st2)) (k : (∀ (H : Heap) (locs : List Loc), J H locs → W p l e R s m args below meth c H locs cells slots Q (F0 m pc2 ls st2)) → W p l e R s m args below meth c H locs cells slots Q (F0 m pc ls st)) : W p l e R s m args below meth c H locs cells slots Q (F0 m pc ls st) := k hj
end RfJoinH
def k_ri (w r : Q4) : Int32 := if k_p0 w r < 0 then 1 else 0
/-- the reference's order: wall i before wall j -/
abbrev k_ah (wi wj r : Q4) (i j : Nat) : Prop := k_up wi r * k_dn wj r < k_up wj r * k_dn wi r ∨ (k_up wi r * k_dn wj r = k_up wj r * k_dn wi r ∧ nI i < nI j)
def rf_kmt (wl : Nat → Option Q4) (r : Q4) (k : Nat) : Prop := ∃ w, wl k = some w ∧ k_met w r
def rf_knr (wl : Nat → Option Q4) (r : Q4) (k v : Nat) : Prop := ∃ wk wv, wl k = some wk ∧ wl v = some wv ∧ k_up wk r * k_dn wv r < k_up wv r * k_dn wk r
theorem rf_knr.of {wl : Nat → Option Q4} {r wk wv : Q4} {k v : Nat} (h1 : wl k = some wk) (h2 : wl v = some wv) (hv : v < k) (hk : k < 64) (h : k_ah wk wv r k v) : rf_knr wl r k v := by
  rcases h with h | ⟨_, h⟩
  · exact ⟨wk, wv, h1, h2, h⟩
  · exact absurd h (nI_nlt (by omega) (by omega))
theorem rf_knr.no {wl : Nat → Option Q4} {r wk wv : Q4} {k v : Nat} (h1 : wl k = some wk) (h2 : wl v = some wv) (h : ¬ k_ah wk wv r k v) : ¬ rf_knr wl r k v := by
  rintro ⟨a, b, e1, e2, h3⟩
  rw [h1] at e1
  rw [h2] at e2
  cases e1
  cases e2
  exact h (Or.inl h3)
theorem rf_kmt.no {wl : Nat → Option Q4} {r w : Q4} {k : Nat} (h : wl k = some w) (h2 : ¬ k_met w r) : ¬ rf_kmt wl r k := by
  rintro ⟨w', h1, h3⟩
  rw [h] at h1
  cases h1
  exact h2 h3
theorem rf_kmt.no0 {wl : Nat → Option Q4} {r : Q4} {k : Nat} (h : wl k = none) : ¬ rf_kmt wl r k := by
  rintro ⟨w', h1, h3⟩
  rw [h] at h1
  cases h1
theorem upd_up {α : Nat → Int32} {k : Nat} {x : Int32} : upd α k x = va_up α k x := rfl
theorem rf_YF.got {wl : Nat → Option Q4} {f0 f1 f2 f3 f4 : Nat → Int32} (h : rf_YF wl f0 f1 f2 f3 f4) {k : Nat} (hk : k < 64) {w : Q4} (e : wl k = some w) : wl k = some (f1 k, f2 k, f3 k, f4 k) := by
  rcases h k hk with ⟨_, h1⟩ | ⟨_, h1⟩
  · rw [e] at h1; cases h1
  · exact h1
theorem rf_row_ins {f : Nat → Int32} {g : Nat → Nat} {n p k : Nat} (h : ∀ j, j < n → f j = nI (g j)) (hp : p ≤ n) : ∀ j, j < n + 1 → rf_mins f (nI k) n p j = nI (g_ins g p k j) := by
  intro j hj
  unfold rf_mins g_ins
  by_cases h1 : j < p
  · rw [if_pos h1, if_pos h1]; exact h j (by omega)
  · rw [if_neg h1, if_neg h1]
    by_cases h2 : j = p
    · rw [if_pos h2, if_pos h2]
    · rw [if_neg h2, if_neg h2, if_pos (by omega)]; exact h (j - 1) (by omega)
end
section
set_option maxHeartbeats 4000000 in
set_option maxRecDepth 100000 in
theorem c_Md_cross (l : Launch) (D : va_G) (tys : List (ClassId × FieldType)) (px py qx qy : Int64) : Met l y_Md_cross (.code y_Md_cross b_Md_cross 8 (some (.long)) :: BIG) { frames := 0, cells := 0, slots := 0, locals := 0 } (rf_Pc D tys [.long px, .long py, .long qx, .long qy] (fun _ => True)) (vp_Sl (fun r => r = m_cross px py qx qy)) 0 0 (fun _ => False) := by
  refine Met.ofW (cc := b_Md_cross) (maxL := 8) (ret := (some (.long))) (by decide) rfl ?_
  intro p e s m args below meth c s₁ B hml hv
  obtain ⟨rfl, hE, hP⟩ := hv
  have hx := B.exec
  have hb := B.bytes
  have hr := B.returns
  have hts : ∀ w ∈ BIG, w.before [.long px, .long py, .long qx, .long qy].toArray s = true := fun w h => atoms_spec (ws := .code y_Md_cross b_Md_cross 8 (some (.long)) :: BIG) B.pre w (List.mem_cons_of_mem _ h)
  have hown : s.vm.findClass "RayFieldModel" = some m.cls := findClass_of_methodNamed B.named
  have hlocks := B.notSynchronized
  have hK := hE.2
  have S0 : CallFix p m c b_Md_cross 8 s [.long px, .long py, .long qx, .long qy].toArray BIG "RayFieldModel" := ⟨hx, hb, hml, hown, hts⟩
  have hl := lv_entry ([.long px, .long py, .long qx, .long qy]) (n := 8) (Nat.le_of_ble_eq_true rfl)
  rw [lg_entry_eq]
  generalize (lg_sl ([.long px, .long py, .long qx, .long qy]) ++ List.replicate (8 - (lg_sl ([.long px, .long py, .long qx, .long qy])).length) Slot.unset).toArray = ls at hl ⊢
  have hl : lv_has ls 8 [(0, .long px), (2, .long py), (4, .long qx), (6, .long qy)] := hl
  refine lv_lload_n hx hb d_Md_cross_0 rfl (lv_at hl 0 rfl) ?_
  refine lv_lload hx hb d_Md_cross_1 (lv_at hl 3 rfl) ?_
  refine lv_lmul hx hb d_Md_cross_3 ?_
  refine lv_lload_n hx hb d_Md_cross_4 rfl (lv_at hl 1 rfl) ?_
  refine lv_lload hx hb d_Md_cross_5 (lv_at hl 2 rfl) ?_
  refine lv_lmul hx hb d_Md_cross_7 ?_
  refine lv_lsub hx hb d_Md_cross_8 ?_
  exact W.lret (v := (px * qy) - (py * qx)) hx hb hr (fun t ht hW => ⟨_, rfl, rfl, ht⟩) (fun _ h => absurd h List.not_mem_nil) d_Md_cross_9
set_option maxHeartbeats 4000000 in
set_option maxRecDepth 100000 in
theorem c_Md_isIn (l : Launch) (D : va_G) (tys : List (ClassId × FieldType)) (v re : Int32) : Met l y_Md_isIn (.code y_Md_isIn b_Md_isIn 2 (some (.boolean)) :: BIG) { frames := 0, cells := 0, slots := 0, locals := 0 } (rf_Pc D tys [.int v, .int re] (fun _ => True)) (vp_Si (fun r => rf_tf r (m_btw v (-re) re))) 0 0 (fun _ => False) := by
  refine Met.ofW (cc := b_Md_isIn) (maxL := 2) (ret := (some (.boolean))) (by decide) rfl ?_
  intro p e s m args below meth c s₁ B hml hv
  obtain ⟨rfl, hE, hP⟩ := hv
  have hx := B.exec
  have hb := B.bytes
  have hr := B.returns
  have hts : ∀ w ∈ BIG, w.before [.int v, .int re].toArray s = true := fun w h => atoms_spec (ws := .code y_Md_isIn b_Md_isIn 2 (some (.boolean)) :: BIG) B.pre w (List.mem_cons_of_mem _ h)
  have hown : s.vm.findClass "RayFieldModel" = some m.cls := findClass_of_methodNamed B.named
  have hlocks := B.notSynchronized
  have hK := hE.2
  have S0 : CallFix p m c b_Md_isIn 2 s [.int v, .int re].toArray BIG "RayFieldModel" := ⟨hx, hb, hml, hown, hts⟩
  have hl := lv_entry ([.int v, .int re]) (n := 2) (Nat.le_of_ble_eq_true rfl)
  rw [lg_entry_eq]
  generalize (lg_sl ([.int v, .int re]) ++ List.replicate (2 - (lg_sl ([.int v, .int re])).length) Slot.unset).toArray = ls at hl ⊢
  have hl : lv_has ls 2 [(0, .int v), (1, .int re)] := hl
  refine lv_iload_n hx hb d_Md_isIn_0 rfl (lv_at hl 0 rfl) ?_
  refine lv_iload_n hx hb d_Md_isIn_1 rfl (lv_at hl 1 rfl) ?_
  refine lv_ineg hx hb d_Md_isIn_2 ?_
  refine lv_icmp_lt (tgt := 15) hx hb d_Md_isIn_3 (by decide) (fun c_1 => ?_) (fun c_1 => ?_)
  · refine lv_iconst (v := 0) hx hb d_Md_isIn_15 (by decide) ?_
    exact W.zret (v := 0) (ty := .boolean) hx hb hr rfl (fun t ht hW => ⟨_, rfl, (rf_F (fun h => (Int32.not_le.mpr c_1) h.1)), ht⟩) (fun _ h => absurd h List.not_mem_nil) d_Md_isIn_16
  · refine lv_iload_n hx hb d_Md_isIn_6 rfl (lv_at hl 0 rfl) ?_
    refine lv_iload_n hx hb d_Md_isIn_7 rfl (lv_at hl 1 rfl) ?_
    refine lv_icmp_gt (tgt := 15) hx hb d_Md_isIn_8 (by decide) (fun c_2 => ?_) (fun c_2 => ?_)
    · refine lv_iconst (v := 0) hx hb d_Md_isIn_15 (by decide) ?_
      exact W.zret (v := 0) (ty := .boolean) hx hb hr rfl (fun t ht hW => ⟨_, rfl, (rf_F (fun h => (Int32.not_le.mpr c_2) h.2)), ht⟩) (fun _ h => absurd h List.not_mem_nil) d_Md_isIn_16
    · refine lv_iconst (v := 1) hx hb d_Md_isIn_11 (by decide) ?_
      refine lv_goto (tgt := 16) hx hb d_Md_isIn_12 (by decide) ?_
      exact W.zret (v := 1) (ty := .boolean) hx hb hr rfl (fun t ht hW => ⟨_, rfl, (rf_T ⟨(Int32.not_lt.mp c_1), (Int32.not_lt.mp c_2)⟩), ht⟩) (fun _ h => absurd h List.not_mem_nil) d_Md_isIn_16
set_option maxHeartbeats 4000000 in
set_option maxRecDepth 100000 in
theorem c_Md_free (l : Launch) (D : va_G) (y t0 t1 t2 t3 t4 t5 : Nat) (c0 c1 c2 c3 c4 c5 : ClassId) (ma ha ex ey dx dy : Int32) (ab be : Int64) (ri : Int32) (o1 o2 : Int64) (f0 f1 f2 f3 f4 f5 : Nat → Int32) (wl : Nat → Option Q4) (hY : rf_YF wl f0 f1 f2 f3 f4) : Met l y_Md_free (.code y_Md_free b_Md_free 2 (some (.int)) :: BIG) { frames := 0, cells := 0, slots := 0, locals := 0 } (rf_Pc D (y_t c0 c1 c2 c3 c4 c5) [.ref y] (fun h => va_P D vwCl (y_7 y t0 t1 t2 t3 t4 t5 c0 c1 c2 c3 c4 c5 ma ha ex ey dx dy ab be ri o1 o2 f0 f1 f2 f3 f4 f5) h)) (vp_Si (fun r => rf_First (fun k => wl k = none) r)) 0 0 (fun _ => False) := by
  refine Met.ofW (cc := b_Md_free) (maxL := 2) (ret := (some (.int))) (by decide) rfl ?_
  intro p e s m args below meth c s₁ B hml hv
  obtain ⟨rfl, hE, hP⟩ := hv
  have hx := B.exec
  have hb := B.bytes
  have hr := B.returns
  have hts : ∀ w ∈ BIG, w.before [.ref y].toArray s = true := fun w h => atoms_spec (ws := .code y_Md_free b_Md_free 2 (some (.int)) :: BIG) B.pre w (List.mem_cons_of_mem _ h)
  have hown : s.vm.findClass "RayFieldModel" = some m.cls := findClass_of_methodNamed B.named
  have hlocks := B.notSynchronized
  have hK := hE.2
  have S0 : CallFix p m c b_Md_free 2 s [.ref y].toArray BIG "RayFieldModel" := ⟨hx, hb, hml, hown, hts⟩
  have hl := lv_entry ([.ref y]) (n := 2) (Nat.le_of_ble_eq_true rfl)
  rw [lg_entry_eq]
  generalize (lg_sl ([.ref y]) ++ List.replicate (2 - (lg_sl ([.ref y])).length) Slot.unset).toArray = ls at hl ⊢
  have hl : lv_has ls 2 [(0, .ref y)] := hl
  have hP : va_P D vwCl (y_7 y t0 t1 t2 t3 t4 t5 c0 c1 c2 c3 c4 c5 ma ha ex ey dx dy ab be ri o1 o2 f0 f1 f2 f3 f4 f5) s.heap := hP
  refine lv_iconst (v := 0) hx hb d_Md_free_0 (by decide) ?_
  refine rf_topi nI_0.symm ?_
  refine lv_istore_n (lv' := [(1, .int (nI 0)), (0, .ref y)]) hx hb d_Md_free_1 rfl hl (by decide) rfl (fun ls hl => ?_)
  refine rf_loopP 2 64 (fun i ls => lv_has ls 2 [(1, .int (nI i)), (0, .ref y)] ∧ (∀ j, j < i → ¬ wl j = none)) (fun ls hI => ?_) (fun i ls hi hI hk => ?_) 0 (Nat.zero_le _) ⟨lv_sub hl [0, 1] rfl, fun j hj => absurd hj (Nat.not_lt_zero _)⟩
  · obtain ⟨hl, hJ⟩ := hI
    refine lv_iload_n hx hb d_Md_free_2 rfl (lv_at hl 0 rfl) ?_
    refine lv_bipush (v := 64) hx hb d_Md_free_3 (by decide) ?_
    refine rf_topi rfl ?_
    refine lv_icmp_ge (tgt := 23) hx hb d_Md_free_5 (by decide) (fun c_1 => ?_) (fun c_1 => absurd (nI_le (Nat.le_refl _) (by decide)) c_1)
    refine lv_iload_n hx hb d_Md_free_23 rfl (lv_at hl 0 rfl) ?_
    refine lv_bipush (v := 64) hx hb d_Md_free_24 (by decide) ?_
    refine rf_topi rfl ?_
    refine lv_icmp_ge (tgt := 33) hx hb d_Md_free_26 (by decide) (fun c_2 => ?_) (fun c_2 => absurd (nI_le (Nat.le_refl _) (by decide)) c_2)
    refine lv_iconst (v := -1) hx hb d_Md_free_33 (by decide) ?_
    exact W.iret (v := (-1)) hx hb hr (fun t ht hW => ⟨_, rfl, (Or.inr ⟨rfl, hJ⟩), ht⟩) (fun _ h => absurd h List.not_mem_nil) d_Md_free_34
  · obtain ⟨hl, hJ⟩ := hI
    refine lv_iload_n hx hb d_Md_free_2 rfl (lv_at hl 0 rfl) ?_
    refine lv_bipush (v := 64) hx hb d_Md_free_3 (by decide) ?_
    refine rf_topi rfl ?_
    refine lv_icmp_ge (tgt := 23) hx hb d_Md_free_5 (by decide) (fun c_3 => absurd c_3 (nI_ge hi (by decide))) (fun c_3 => ?_)
    refine lv_aload_n hx hb d_Md_free_8 rfl (lv_at hl 1 rfl) ?_
    refine va_get (D := D) (ci := 4) (v := .ref t0) (C := "RayFieldModel") (T := F_Md) (N := 18) hx hb hts in_Md hown hK hP 0 rfl rfl 1 (by decide) (hts _ w_281) (fun _ h9 => h9) rfl d_Md_free_9 ?_
    refine lv_iload_n hx hb d_Md_free_12 rfl (lv_at hl 0 rfl) ?_
    refine rf_zald hx hb hK hP 1 0 rfl rfl hi (by decide) d_Md_free_13 ?_
    refine lv_if_eq (tgt := 23) hx hb d_Md_free_14 (by decide) (fun c_4 => ?_) (fun c_4 => ?_)
    · refine lv_iload_n hx hb d_Md_free_23 rfl (lv_at hl 0 rfl) ?_
      refine lv_bipush (v := 64) hx hb d_Md_free_24 (by decide) ?_
      refine rf_topi rfl ?_
      refine lv_icmp_ge (tgt := 33) hx hb d_Md_free_26 (by decide) (fun c_5 => absurd c_5 (nI_ge hi (by decide))) (fun c_5 => ?_)
      refine lv_iload_n hx hb d_Md_free_29 rfl (lv_at hl 0 rfl) ?_
      refine lv_goto (tgt := 34) hx hb d_Md_free_30 (by decide) ?_
      exact W.iret (v := nI i) hx hb hr (fun t ht hW => ⟨_, rfl, (Or.inl ⟨i, hi, rfl, hY.zero hi c_4, hJ⟩), ht⟩) (fun _ h => absurd h List.not_mem_nil) d_Md_free_34
    · refine lv_iinc (v := (nI (i + 1))) (lv' := [(1, .int (nI (i + 1))), (0, .ref y)]) hx hb d_Md_free_17 hl (k := 0) rfl (nI_1 i) (by decide) rfl (fun ls hl => ?_)
      refine lv_goto (tgt := 2) hx hb d_Md_free_20 (by decide) ?_
      exact hk _ ⟨lv_sub hl [0, 1] rfl, lt_s hJ (fun z => by rw [hY.one hi c_4] at z; cases z)⟩
set_option maxHeartbeats 4000000 in
set_option maxRecDepth 100000 in
theorem c_Md_isWall (l : Launch) (D : va_G) (y t0 t1 t2 t3 t4 t5 : Nat) (c0 c1 c2 c3 c4 c5 : ClassId) (ma ha ex ey dx dy : Int32) (ab be : Int64) (ri : Int32) (o1 o2 : Int64) (f0 f1 f2 f3 f4 f5 : Nat → Int32) (wl : Nat → Option Q4) (hY : rf_YF wl f0 f1 f2 f3 f4) (i : Int32) : Met l y_Md_isWall (.code y_Md_isWall b_Md_isWall 2 (some (.boolean)) :: BIG) { frames := 0, cells := 0, slots := 0, locals := 0 } (rf_Pc D (y_t c0 c1 c2 c3 c4 c5) [.ref y, .int i] (fun h => va_P D vwCl (y_7 y t0 t1 t2 t3 t4 t5 c0 c1 c2 c3 c4 c5 ma ha ex ey dx dy ab be ri o1 o2 f0 f1 f2 f3 f4 f5) h)) (vp_Si (fun r => rf_tf r (∃ k, k < 64 ∧ i = nI k ∧ ∃ v, wl k = some v))) 0 0 (fun _ => False) := by
  refine Met.ofW (cc := b_Md_isWall) (maxL := 2) (ret := (some (.boolean))) (by decide) rfl ?_
  intro p e s m args below meth c s₁ B hml hv
  obtain ⟨rfl, hE, hP⟩ := hv
  have hx := B.exec
  have hb := B.bytes
  have hr := B.returns
  have hts : ∀ w ∈ BIG, w.before [.ref y, .int i].toArray s = true := fun w h => atoms_spec (ws := .code y_Md_isWall b_Md_isWall 2 (some (.boolean)) :: BIG) B.pre w (List.mem_cons_of_mem _ h)
  have hown : s.vm.findClass "RayFieldModel" = some m.cls := findClass_of_methodNamed B.named
  have hlocks := B.notSynchronized
  have hK := hE.2
  have S0 : CallFix p m c b_Md_isWall 2 s [.ref y, .int i].toArray BIG "RayFieldModel" := ⟨hx, hb, hml, hown, hts⟩
  have hl := lv_entry ([.ref y, .int i]) (n := 2) (Nat.le_of_ble_eq_true rfl)
  rw [lg_entry_eq]
  generalize (lg_sl ([.ref y, .int i]) ++ List.replicate (2 - (lg_sl ([.ref y, .int i])).length) Slot.unset).toArray = ls at hl ⊢
  have hl : lv_has ls 2 [(0, .ref y), (1, .int i)] := hl
  have hP : va_P D vwCl (y_7 y t0 t1 t2 t3 t4 t5 c0 c1 c2 c3 c4 c5 ma ha ex ey dx dy ab be ri o1 o2 f0 f1 f2 f3 f4 f5) s.heap := hP
  refine lv_iload_n hx hb d_Md_isWall_0 rfl (lv_at hl 1 rfl) ?_
  refine lv_if_lt (tgt := 23) hx hb d_Md_isWall_1 (by decide) (fun c_1 => ?_) (fun c_1 => ?_)
  · refine lv_iconst (v := 0) hx hb d_Md_isWall_23 (by decide) ?_
    exact W.zret (v := 0) (ty := .boolean) hx hb hr rfl (fun t ht hW => ⟨_, rfl, (rf_F (fun ⟨k, hk, ek, _⟩ => rf_ix0 (n := 64) (by decide) (Or.inl c_1) k hk ek)), ht⟩) (fun _ h => absurd h List.not_mem_nil) d_Md_isWall_24
  · refine lv_iload_n hx hb d_Md_isWall_4 rfl (lv_at hl 1 rfl) ?_
    refine lv_bipush (v := 64) hx hb d_Md_isWall_5 (by decide) ?_
    refine rf_topi rfl ?_
    refine lv_icmp_ge (tgt := 23) hx hb d_Md_isWall_7 (by decide) (fun c_2 => ?_) (fun c_2 => ?_)
    · refine lv_iconst (v := 0) hx hb d_Md_isWall_23 (by decide) ?_
      exact W.zret (v := 0) (ty := .boolean) hx hb hr rfl (fun t ht hW => ⟨_, rfl, (rf_F (fun ⟨k, hk, ek, _⟩ => rf_ix0 (n := 64) (by decide) (Or.inr c_2) k hk ek)), ht⟩) (fun _ h => absurd h List.not_mem_nil) d_Md_isWall_24
    · obtain ⟨k, hk, ek⟩ := rf_ix (n := 64) (by decide) c_1 c_2
      subst ek
      refine lv_aload_n hx hb d_Md_isWall_10 rfl (lv_at hl 0 rfl) ?_
      refine va_get (D := D) (ci := 4) (v := .ref t0) (C := "RayFieldModel") (T := F_Md) (N := 18) hx hb hts in_Md hown hK hP 0 rfl rfl 1 (by decide) (hts _ w_281) (fun _ h9 => h9) rfl d_Md_isWall_11 ?_
      refine lv_iload_n hx hb d_Md_isWall_14 rfl (lv_at hl 1 rfl) ?_
      refine rf_zald hx hb hK hP 1 0 rfl rfl hk (by decide) d_Md_isWall_15 ?_
      refine lv_if_eq (tgt := 23) hx hb d_Md_isWall_16 (by decide) (fun c_3 => ?_) (fun c_3 => ?_)
      · refine lv_iconst (v := 0) hx hb d_Md_isWall_23 (by decide) ?_
        exact W.zret (v := 0) (ty := .boolean) hx hb hr rfl (fun t ht hW => ⟨_, rfl, (rf_F (fun ⟨k2, hk2, ek2, v2, h2⟩ => by have e := nI_inj (by omega) (by omega) ek2; subst e; rw [hY.zero hk c_3] at h2; cases h2)), ht⟩) (fun _ h => absurd h List.not_mem_nil) d_Md_isWall_24
      · refine lv_iconst (v := 1) hx hb d_Md_isWall_19 (by decide) ?_
        refine lv_goto (tgt := 24) hx hb d_Md_isWall_20 (by decide) ?_
        exact W.zret (v := 1) (ty := .boolean) hx hb hr rfl (fun t ht hW => ⟨_, rfl, (rf_T ⟨k, hk, rfl, _, hY.one hk c_3⟩), ht⟩) (fun _ h => absurd h List.not_mem_nil) d_Md_isWall_24
set_option maxHeartbeats 4000000 in
set_option maxRecDepth 100000 in
theorem c_Md_isEnd (l : Launch) (D : va_G) (y t0 t1 t2 t3 t4 t5 : Nat) (c0 c1 c2 c3 c4 c5 : ClassId) (ma ha ex ey dx dy : Int32) (ab be : Int64) (ri : Int32) (o1 o2 : Int64) (f0 f1 f2 f3 f4 f5 : Nat → Int32) (k : Nat) (hk : k < 64) (x1 x2 : Int32) : Met l y_Md_isEnd (.code y_Md_isEnd b_Md_isEnd 4 (some (.boolean)) :: BIG) { frames := 0, cells := 0, slots := 0, locals := 0 } (rf_Pc D (y_t c0 c1 c2 c3 c4 c5) [.ref y, .int (nI k), .int x1, .int x2] (fun h => va_P D vwCl (y_7 y t0 t1 t2 t3 t4 t5 c0 c1 c2 c3 c4 c5 ma ha ex ey dx dy ab be ri o1 o2 f0 f1 f2 f3 f4 f5) h)) (vp_Si (fun r => rf_tf r (k_end (f1 k, f2 k, f3 k, f4 k) x1 x2))) 0 0 (fun _ => False) := by
  refine Met.ofW (cc := b_Md_isEnd) (maxL := 4) (ret := (some (.boolean))) (by decide) rfl ?_
  intro p e s m args below meth c s₁ B hml hv
  obtain ⟨rfl, hE, hP⟩ := hv
  have hx := B.exec
  have hb := B.bytes
  have hr := B.returns
  have hts : ∀ w ∈ BIG, w.before [.ref y, .int (nI k), .int x1, .int x2].toArray s = true := fun w h => atoms_spec (ws := .code y_Md_isEnd b_Md_isEnd 4 (some (.boolean)) :: BIG) B.pre w (List.mem_cons_of_mem _ h)
  have hown : s.vm.findClass "RayFieldModel" = some m.cls := findClass_of_methodNamed B.named
  have hlocks := B.notSynchronized
  have hK := hE.2
  have S0 : CallFix p m c b_Md_isEnd 4 s [.ref y, .int (nI k), .int x1, .int x2].toArray BIG "RayFieldModel" := ⟨hx, hb, hml, hown, hts⟩
  have hl := lv_entry ([.ref y, .int (nI k), .int x1, .int x2]) (n := 4) (Nat.le_of_ble_eq_true rfl)
  rw [lg_entry_eq]
  generalize (lg_sl ([.ref y, .int (nI k), .int x1, .int x2]) ++ List.replicate (4 - (lg_sl ([.ref y, .int (nI k), .int x1, .int x2])).length) Slot.unset).toArray = ls at hl ⊢
  have hl : lv_has ls 4 [(0, .ref y), (1, .int (nI k)), (2, .int x1), (3, .int x2)] := hl
  have hP : va_P D vwCl (y_7 y t0 t1 t2 t3 t4 t5 c0 c1 c2 c3 c4 c5 ma ha ex ey dx dy ab be ri o1 o2 f0 f1 f2 f3 f4 f5) s.heap := hP
  refine lv_aload_n hx hb d_Md_isEnd_0 rfl (lv_at hl 0 rfl) ?_
  refine va_get (D := D) (ci := 4) (v := .ref t1) (C := "RayFieldModel") (T := F_Md) (N := 18) hx hb hts in_Md hown hK hP 0 rfl rfl 2 (by decide) (hts _ w_282) (fun _ h9 => h9) rfl d_Md_isEnd_1 ?_
  refine lv_iload_n hx hb d_Md_isEnd_4 rfl (lv_at hl 1 rfl) ?_
  refine rf_iald hx hb hK hP 2 1 rfl rfl hk (by decide) d_Md_isEnd_5 ?_
  refine lv_iload_n hx hb d_Md_isEnd_6 rfl (lv_at hl 2 rfl) ?_
  refine lv_icmp_ne (tgt := 20) hx hb d_Md_isEnd_7 (by decide) (fun c_1 => ?_) (fun c_1 => ?_)
  · refine lv_aload_n hx hb d_Md_isEnd_20 rfl (lv_at hl 0 rfl) ?_
    refine va_get (D := D) (ci := 4) (v := .ref t3) (C := "RayFieldModel") (T := F_Md) (N := 18) hx hb hts in_Md hown hK hP 0 rfl rfl 4 (by decide) (hts _ w_284) (fun _ h9 => h9) rfl d_Md_isEnd_21 ?_
    refine lv_iload_n hx hb d_Md_isEnd_24 rfl (lv_at hl 1 rfl) ?_
    refine rf_iald hx hb hK hP 4 3 rfl rfl hk (by decide) d_Md_isEnd_25 ?_
    refine lv_iload_n hx hb d_Md_isEnd_26 rfl (lv_at hl 2 rfl) ?_
    refine lv_icmp_ne (tgt := 44) hx hb d_Md_isEnd_27 (by decide) (fun c_2 => ?_) (fun c_2 => ?_)
    · refine lv_iconst (v := 0) hx hb d_Md_isEnd_44 (by decide) ?_
      exact W.zret (v := 0) (ty := .boolean) hx hb hr rfl (fun t ht hW => ⟨_, rfl, (rf_F (fun h => h.elim (fun h => c_1 h.1) (fun h => c_2 h.1))), ht⟩) (fun _ h => absurd h List.not_mem_nil) d_Md_isEnd_45
    · refine lv_aload_n hx hb d_Md_isEnd_30 rfl (lv_at hl 0 rfl) ?_
      refine va_get (D := D) (ci := 4) (v := .ref t4) (C := "RayFieldModel") (T := F_Md) (N := 18) hx hb hts in_Md hown hK hP 0 rfl rfl 5 (by decide) (hts _ w_285) (fun _ h9 => h9) rfl d_Md_isEnd_31 ?_
      refine lv_iload_n hx hb d_Md_isEnd_34 rfl (lv_at hl 1 rfl) ?_
      refine rf_iald hx hb hK hP 5 4 rfl rfl hk (by decide) d_Md_isEnd_35 ?_
      refine lv_iload_n hx hb d_Md_isEnd_36 rfl (lv_at hl 3 rfl) ?_
      refine lv_icmp_ne (tgt := 44) hx hb d_Md_isEnd_37 (by decide) (fun c_3 => ?_) (fun c_3 => ?_)
      · refine lv_iconst (v := 0) hx hb d_Md_isEnd_44 (by decide) ?_
        exact W.zret (v := 0) (ty := .boolean) hx hb hr rfl (fun t ht hW => ⟨_, rfl, (rf_F (fun h => h.elim (fun h => c_1 h.1) (fun h => c_3 h.2))), ht⟩) (fun _ h => absurd h List.not_mem_nil) d_Md_isEnd_45
      · refine lv_iconst (v := 1) hx hb d_Md_isEnd_40 (by decide) ?_
        refine lv_goto (tgt := 45) hx hb d_Md_isEnd_41 (by decide) ?_
        exact W.zret (v := 1) (ty := .boolean) hx hb hr rfl (fun t ht hW => ⟨_, rfl, (rf_T (Or.inr ⟨c_2, c_3⟩)), ht⟩) (fun _ h => absurd h List.not_mem_nil) d_Md_isEnd_45
  · refine lv_aload_n hx hb d_Md_isEnd_10 rfl (lv_at hl 0 rfl) ?_
    refine va_get (D := D) (ci := 4) (v := .ref t2) (C := "RayFieldModel") (T := F_Md) (N := 18) hx hb hts in_Md hown hK hP 0 rfl rfl 3 (by decide) (hts _ w_283) (fun _ h9 => h9) rfl d_Md_isEnd_11 ?_
    refine lv_iload_n hx hb d_Md_isEnd_14 rfl (lv_at hl 1 rfl) ?_
    refine rf_iald hx hb hK hP 3 2 rfl rfl hk (by decide) d_Md_isEnd_15 ?_
    refine lv_iload_n hx hb d_Md_isEnd_16 rfl (lv_at hl 3 rfl) ?_
    refine lv_icmp_eq (tgt := 40) hx hb d_Md_isEnd_17 (by decide) (fun c_4 => ?_) (fun c_4 => ?_)
    · refine lv_iconst (v := 1) hx hb d_Md_isEnd_40 (by decide) ?_
      refine lv_goto (tgt := 45) hx hb d_Md_isEnd_41 (by decide) ?_
      exact W.zret (v := 1) (ty := .boolean) hx hb hr rfl (fun t ht hW => ⟨_, rfl, (rf_T (Or.inl ⟨c_1, c_4⟩)), ht⟩) (fun _ h => absurd h List.not_mem_nil) d_Md_isEnd_45
    · refine lv_aload_n hx hb d_Md_isEnd_20 rfl (lv_at hl 0 rfl) ?_
      refine va_get (D := D) (ci := 4) (v := .ref t3) (C := "RayFieldModel") (T := F_Md) (N := 18) hx hb hts in_Md hown hK hP 0 rfl rfl 4 (by decide) (hts _ w_284) (fun _ h9 => h9) rfl d_Md_isEnd_21 ?_
      refine lv_iload_n hx hb d_Md_isEnd_24 rfl (lv_at hl 1 rfl) ?_
      refine rf_iald hx hb hK hP 4 3 rfl rfl hk (by decide) d_Md_isEnd_25 ?_
      refine lv_iload_n hx hb d_Md_isEnd_26 rfl (lv_at hl 2 rfl) ?_
      refine lv_icmp_ne (tgt := 44) hx hb d_Md_isEnd_27 (by decide) (fun c_5 => ?_) (fun c_5 => ?_)
      · refine lv_iconst (v := 0) hx hb d_Md_isEnd_44 (by decide) ?_
        exact W.zret (v := 0) (ty := .boolean) hx hb hr rfl (fun t ht hW => ⟨_, rfl, (rf_F (fun h => h.elim (fun h => c_4 h.2) (fun h => c_5 h.1))), ht⟩) (fun _ h => absurd h List.not_mem_nil) d_Md_isEnd_45
      · refine lv_aload_n hx hb d_Md_isEnd_30 rfl (lv_at hl 0 rfl) ?_
        refine va_get (D := D) (ci := 4) (v := .ref t4) (C := "RayFieldModel") (T := F_Md) (N := 18) hx hb hts in_Md hown hK hP 0 rfl rfl 5 (by decide) (hts _ w_285) (fun _ h9 => h9) rfl d_Md_isEnd_31 ?_
        refine lv_iload_n hx hb d_Md_isEnd_34 rfl (lv_at hl 1 rfl) ?_
        refine rf_iald hx hb hK hP 5 4 rfl rfl hk (by decide) d_Md_isEnd_35 ?_
        refine lv_iload_n hx hb d_Md_isEnd_36 rfl (lv_at hl 3 rfl) ?_
        refine lv_icmp_ne (tgt := 44) hx hb d_Md_isEnd_37 (by decide) (fun c_6 => ?_) (fun c_6 => ?_)
        · refine lv_iconst (v := 0) hx hb d_Md_isEnd_44 (by decide) ?_
          exact W.zret (v := 0) (ty := .boolean) hx hb hr rfl (fun t ht hW => ⟨_, rfl, (rf_F (fun h => h.elim (fun h => c_4 h.2) (fun h => c_6 h.2))), ht⟩) (fun _ h => absurd h List.not_mem_nil) d_Md_isEnd_45
        · refine lv_iconst (v := 1) hx hb d_Md_isEnd_40 (by decide) ?_
          refine lv_goto (tgt := 45) hx hb d_Md_isEnd_41 (by decide) ?_
          exact W.zret (v := 1) (ty := .boolean) hx hb hr rfl (fun t ht hW => ⟨_, rfl, (rf_T (Or.inr ⟨c_5, c_6⟩)), ht⟩) (fun _ h => absurd h List.not_mem_nil) d_Md_isEnd_45
set_option maxHeartbeats 4000000 in
set_option maxRecDepth 100000 in
theorem c_Md_isOn (l : Launch) (D : va_G) (y t0 t1 t2 t3 t4 t5 : Nat) (c0 c1 c2 c3 c4 c5 : ClassId) (ma ha ex ey dx dy : Int32) (ab be : Int64) (ri : Int32) (o1 o2 : Int64) (f0 f1 f2 f3 f4 f5 : Nat → Int32) (k : Nat) (hk : k < 64) (x1 x2 : Int32) : Met l y_Md_isOn (.code y_Md_isOn b_Md_isOn 8 (some (.boolean)) :: BIG) { frames := 1, cells := 0, slots := 0, locals := 40 } (rf_Pc D (y_t c0 c1 c2 c3 c4 c5) [.ref y, .int (nI k), .int x1, .int x2] (fun h => va_P D vwCl (y_7 y t0 t1 t2 t3 t4 t5 c0 c1 c2 c3 c4 c5 ma ha ex ey dx dy ab be ri o1 o2 f0 f1 f2 f3 f4 f5) h)) (vp_Si (fun r => rf_tf r (k_on (f1 k, f2 k, f3 k, f4 k) x1 x2))) 0 0 (fun _ => False) := by
  refine Met.ofW (cc := b_Md_isOn) (maxL := 8) (ret := (some (.boolean))) (by decide) rfl ?_
  intro p e s m args below meth c s₁ B hml hv
  obtain ⟨rfl, hE, hP⟩ := hv
  have hx := B.exec
  have hb := B.bytes
  have hr := B.returns
  have hts : ∀ w ∈ BIG, w.before [.ref y, .int (nI k), .int x1, .int x2].toArray s = true := fun w h => atoms_spec (ws := .code y_Md_isOn b_Md_isOn 8 (some (.boolean)) :: BIG) B.pre w (List.mem_cons_of_mem _ h)
  have hown : s.vm.findClass "RayFieldModel" = some m.cls := findClass_of_methodNamed B.named
  have hlocks := B.notSynchronized
  have hK := hE.2
  have S0 : CallFix p m c b_Md_isOn 8 s [.ref y, .int (nI k), .int x1, .int x2].toArray BIG "RayFieldModel" := ⟨hx, hb, hml, hown, hts⟩
  have hl := lv_entry ([.ref y, .int (nI k), .int x1, .int x2]) (n := 8) (Nat.le_of_ble_eq_true rfl)
  rw [lg_entry_eq]
  generalize (lg_sl ([.ref y, .int (nI k), .int x1, .int x2]) ++ List.replicate (8 - (lg_sl ([.ref y, .int (nI k), .int x1, .int x2])).length) Slot.unset).toArray = ls at hl ⊢
  have hl : lv_has ls 8 [(0, .ref y), (1, .int (nI k)), (2, .int x1), (3, .int x2)] := hl
  have hP : va_P D vwCl (y_7 y t0 t1 t2 t3 t4 t5 c0 c1 c2 c3 c4 c5 ma ha ex ey dx dy ab be ri o1 o2 f0 f1 f2 f3 f4 f5) s.heap := hP
  refine rf_joinI 30 [] (fun b => b = k_lo (f1 k) (f3 k)) (fun b hb0 => ?_) (fun J => ?_)
  · subst hb0
    refine lv_istore (lv' := [(4, .int (k_lo (f1 k) (f3 k))), (0, .ref y), (1, .int (nI k)), (2, .int x1), (3, .int x2)]) hx hb d_Md_isOn_30 hl (by decide) rfl (fun ls hl => ?_)
    refine rf_joinI 62 [] (fun b => b = k_hi (f1 k) (f3 k)) (fun b hb0 => ?_) (fun J => ?_)
    · subst hb0
      refine lv_istore (lv' := [(5, .int (k_hi (f1 k) (f3 k))), (4, .int (k_lo (f1 k) (f3 k))), (0, .ref y), (1, .int (nI k)), (2, .int x1), (3, .int x2)]) hx hb d_Md_isOn_62 hl (by decide) rfl (fun ls hl => ?_)
      refine rf_joinI 94 [] (fun b => b = k_lo (f2 k) (f4 k)) (fun b hb0 => ?_) (fun J => ?_)
      · subst hb0
        refine lv_istore (lv' := [(6, .int (k_lo (f2 k) (f4 k))), (5, .int (k_hi (f1 k) (f3 k))), (4, .int (k_lo (f1 k) (f3 k))), (0, .ref y), (1, .int (nI k)), (2, .int x1), (3, .int x2)]) hx hb d_Md_isOn_94 hl (by decide) rfl (fun ls hl => ?_)
        refine rf_joinI 126 [] (fun b => b = k_hi (f2 k) (f4 k)) (fun b hb0 => ?_) (fun J => ?_)
        · subst hb0
          refine lv_istore (lv' := [(7, .int (k_hi (f2 k) (f4 k))), (6, .int (k_lo (f2 k) (f4 k))), (5, .int (k_hi (f1 k) (f3 k))), (4, .int (k_lo (f1 k) (f3 k))), (0, .ref y), (1, .int (nI k)), (2, .int x1), (3, .int x2)]) hx hb d_Md_isOn_126 hl (by decide) rfl (fun ls hl => ?_)
          refine lv_aload_n hx hb d_Md_isOn_128 rfl (lv_at hl 4 rfl) ?_
          refine va_get (D := D) (ci := 4) (v := .ref t3) (C := "RayFieldModel") (T := F_Md) (N := 18) hx hb hts in_Md hown hK hP 0 rfl rfl 4 (by decide) (hts _ w_284) (fun _ h9 => h9) rfl d_Md_isOn_129 ?_
          refine lv_iload_n hx hb d_Md_isOn_132 rfl (lv_at hl 5 rfl) ?_
          refine rf_iald hx hb hK hP 4 3 rfl rfl hk (by decide) d_Md_isOn_133 ?_
          refine lv_aload_n hx hb d_Md_isOn_134 rfl (lv_at hl 4 rfl) ?_
          refine va_get (D := D) (ci := 4) (v := .ref t1) (C := "RayFieldModel") (T := F_Md) (N := 18) hx hb hts in_Md hown hK hP 0 rfl rfl 2 (by decide) (hts _ w_282) (fun _ h9 => h9) rfl d_Md_isOn_135 ?_
          refine lv_iload_n hx hb d_Md_isOn_138 rfl (lv_at hl 5 rfl) ?_
          refine rf_iald hx hb hK hP 2 1 rfl rfl hk (by decide) d_Md_isOn_139 ?_
          refine lv_isub hx hb d_Md_isOn_140 ?_
          refine lv_i2l hx hb d_Md_isOn_141 rfl ?_
          refine lv_aload_n hx hb d_Md_isOn_142 rfl (lv_at hl 4 rfl) ?_
          refine va_get (D := D) (ci := 4) (v := .ref t4) (C := "RayFieldModel") (T := F_Md) (N := 18) hx hb hts in_Md hown hK hP 0 rfl rfl 5 (by decide) (hts _ w_285) (fun _ h9 => h9) rfl d_Md_isOn_143 ?_
          refine lv_iload_n hx hb d_Md_isOn_146 rfl (lv_at hl 5 rfl) ?_
          refine rf_iald hx hb hK hP 5 4 rfl rfl hk (by decide) d_Md_isOn_147 ?_
          refine lv_aload_n hx hb d_Md_isOn_148 rfl (lv_at hl 4 rfl) ?_
          refine va_get (D := D) (ci := 4) (v := .ref t2) (C := "RayFieldModel") (T := F_Md) (N := 18) hx hb hts in_Md hown hK hP 0 rfl rfl 3 (by decide) (hts _ w_283) (fun _ h9 => h9) rfl d_Md_isOn_149 ?_
          refine lv_iload_n hx hb d_Md_isOn_152 rfl (lv_at hl 5 rfl) ?_
          refine rf_iald hx hb hK hP 3 2 rfl rfl hk (by decide) d_Md_isOn_153 ?_
          refine lv_isub hx hb d_Md_isOn_154 ?_
          refine lv_i2l hx hb d_Md_isOn_155 rfl ?_
          refine lv_iload_n hx hb d_Md_isOn_156 rfl (lv_at hl 6 rfl) ?_
          refine lv_aload_n hx hb d_Md_isOn_157 rfl (lv_at hl 4 rfl) ?_
          refine va_get (D := D) (ci := 4) (v := .ref t1) (C := "RayFieldModel") (T := F_Md) (N := 18) hx hb hts in_Md hown hK hP 0 rfl rfl 2 (by decide) (hts _ w_282) (fun _ h9 => h9) rfl d_Md_isOn_158 ?_
          refine lv_iload_n hx hb d_Md_isOn_161 rfl (lv_at hl 5 rfl) ?_
          refine rf_iald hx hb hK hP 2 1 rfl rfl hk (by decide) d_Md_isOn_162 ?_
          refine lv_isub hx hb d_Md_isOn_163 ?_
          refine lv_i2l hx hb d_Md_isOn_164 rfl ?_
          refine lv_iload_n hx hb d_Md_isOn_165 rfl (lv_at hl 7 rfl) ?_
          refine lv_aload_n hx hb d_Md_isOn_166 rfl (lv_at hl 4 rfl) ?_
          refine va_get (D := D) (ci := 4) (v := .ref t2) (C := "RayFieldModel") (T := F_Md) (N := 18) hx hb hts in_Md hown hK hP 0 rfl rfl 3 (by decide) (hts _ w_283) (fun _ h9 => h9) rfl d_Md_isOn_167 ?_
          refine lv_iload_n hx hb d_Md_isOn_170 rfl (lv_at hl 5 rfl) ?_
          refine rf_iald hx hb hK hP 3 2 rfl rfl hk (by decide) d_Md_isOn_171 ?_
          refine lv_isub hx hb d_Md_isOn_172 ?_
          refine lv_i2l hx hb d_Md_isOn_173 rfl ?_
          refine vp_callSl (va_Run.run (rf_runS (As := [.long (((f3 k) - (f1 k)).toInt64), .long (((f4 k) - (f2 k)).toInt64), .long ((x1 - (f1 k)).toInt64), .long ((x2 - (f2 k)).toInt64)]) (rest := []) S0 ml_Md_33 (c_Md_cross l D (y_t c0 c1 c2 c3 c4 c5) (((f3 k) - (f1 k)).toInt64) (((f4 k) - (f2 k)).toInt64) ((x1 - (f1 k)).toInt64) ((x2 - (f2 k)).toInt64)) hE trivial ⟨rfl, rfl, Nat.le_of_ble_eq_true rfl, Nat.le_of_ble_eq_true rfl⟩ rfl hl.1 rfl (Nat.le_of_ble_eq_true rfl) d_Md_isOn_174 ⟨Nat.zero_le _, Nat.zero_le _⟩)) (fun r_1 h_2 => ?_)
          subst h_2
          refine lv_lconst (v := 0) hx hb d_Md_isOn_177 (by decide) ?_
          refine rf_lcmp_ne (tgt := 210) hx hb d_Md_isOn_178 d_Md_isOn_179 (by decide) (fun c_3 => ?_) (fun c_3 => ?_)
          · refine lv_iconst (v := 0) hx hb d_Md_isOn_210 (by decide) ?_
            exact W.zret (v := 0) (ty := .boolean) hx hb hr rfl (fun t ht hW => ⟨_, rfl, (rf_F (fun h => c_3 h.1)), ht⟩) (fun _ h => absurd h List.not_mem_nil) d_Md_isOn_211
          · refine lv_iload_n hx hb d_Md_isOn_182 rfl (lv_at hl 6 rfl) ?_
            refine lv_iload hx hb d_Md_isOn_183 (lv_at hl 3 rfl) ?_
            refine lv_icmp_lt (tgt := 210) hx hb d_Md_isOn_185 (by decide) (fun c_4 => ?_) (fun c_4 => ?_)
            · refine lv_iconst (v := 0) hx hb d_Md_isOn_210 (by decide) ?_
              exact W.zret (v := 0) (ty := .boolean) hx hb hr rfl (fun t ht hW => ⟨_, rfl, (rf_F (fun h => (Int32.not_le.mpr c_4) h.2.1)), ht⟩) (fun _ h => absurd h List.not_mem_nil) d_Md_isOn_211
            · refine lv_iload_n hx hb d_Md_isOn_188 rfl (lv_at hl 6 rfl) ?_
              refine lv_iload hx hb d_Md_isOn_189 (lv_at hl 2 rfl) ?_
              refine lv_icmp_gt (tgt := 210) hx hb d_Md_isOn_191 (by decide) (fun c_5 => ?_) (fun c_5 => ?_)
              · refine lv_iconst (v := 0) hx hb d_Md_isOn_210 (by decide) ?_
                exact W.zret (v := 0) (ty := .boolean) hx hb hr rfl (fun t ht hW => ⟨_, rfl, (rf_F (fun h => (Int32.not_le.mpr c_5) h.2.2.1)), ht⟩) (fun _ h => absurd h List.not_mem_nil) d_Md_isOn_211
              · refine lv_iload_n hx hb d_Md_isOn_194 rfl (lv_at hl 7 rfl) ?_
                refine lv_iload hx hb d_Md_isOn_195 (lv_at hl 1 rfl) ?_
                refine lv_icmp_lt (tgt := 210) hx hb d_Md_isOn_197 (by decide) (fun c_6 => ?_) (fun c_6 => ?_)
                · refine lv_iconst (v := 0) hx hb d_Md_isOn_210 (by decide) ?_
                  exact W.zret (v := 0) (ty := .boolean) hx hb hr rfl (fun t ht hW => ⟨_, rfl, (rf_F (fun h => (Int32.not_le.mpr c_6) h.2.2.2.1)), ht⟩) (fun _ h => absurd h List.not_mem_nil) d_Md_isOn_211
                · refine lv_iload_n hx hb d_Md_isOn_200 rfl (lv_at hl 7 rfl) ?_
                  refine lv_iload hx hb d_Md_isOn_201 (lv_at hl 0 rfl) ?_
                  refine lv_icmp_gt (tgt := 210) hx hb d_Md_isOn_203 (by decide) (fun c_7 => ?_) (fun c_7 => ?_)
                  · refine lv_iconst (v := 0) hx hb d_Md_isOn_210 (by decide) ?_
                    exact W.zret (v := 0) (ty := .boolean) hx hb hr rfl (fun t ht hW => ⟨_, rfl, (rf_F (fun h => (Int32.not_le.mpr c_7) h.2.2.2.2)), ht⟩) (fun _ h => absurd h List.not_mem_nil) d_Md_isOn_211
                  · refine lv_iconst (v := 1) hx hb d_Md_isOn_206 (by decide) ?_
                    refine lv_goto (tgt := 211) hx hb d_Md_isOn_207 (by decide) ?_
                    exact W.zret (v := 1) (ty := .boolean) hx hb hr rfl (fun t ht hW => ⟨_, rfl, (rf_T ⟨c_3, (Int32.not_lt.mp c_4), (Int32.not_lt.mp c_5), (Int32.not_lt.mp c_6), (Int32.not_lt.mp c_7)⟩), ht⟩) (fun _ h => absurd h List.not_mem_nil) d_Md_isOn_211
        · refine lv_aload_n hx hb d_Md_isOn_96 rfl (lv_at hl 3 rfl) ?_
          refine va_get (D := D) (ci := 4) (v := .ref t2) (C := "RayFieldModel") (T := F_Md) (N := 18) hx hb hts in_Md hown hK hP 0 rfl rfl 3 (by decide) (hts _ w_283) (fun _ h9 => h9) rfl d_Md_isOn_97 ?_
          refine lv_iload_n hx hb d_Md_isOn_100 rfl (lv_at hl 4 rfl) ?_
          refine rf_iald hx hb hK hP 3 2 rfl rfl hk (by decide) d_Md_isOn_101 ?_
          refine lv_aload_n hx hb d_Md_isOn_102 rfl (lv_at hl 3 rfl) ?_
          refine va_get (D := D) (ci := 4) (v := .ref t4) (C := "RayFieldModel") (T := F_Md) (N := 18) hx hb hts in_Md hown hK hP 0 rfl rfl 5 (by decide) (hts _ w_285) (fun _ h9 => h9) rfl d_Md_isOn_103 ?_
          refine lv_iload_n hx hb d_Md_isOn_106 rfl (lv_at hl 4 rfl) ?_
          refine rf_iald hx hb hK hP 5 4 rfl rfl hk (by decide) d_Md_isOn_107 ?_
          refine lv_icmp_ge (tgt := 120) hx hb d_Md_isOn_108 (by decide) (fun c_8 => ?_) (fun c_8 => ?_)
          · refine lv_aload_n hx hb d_Md_isOn_120 rfl (lv_at hl 3 rfl) ?_
            refine va_get (D := D) (ci := 4) (v := .ref t2) (C := "RayFieldModel") (T := F_Md) (N := 18) hx hb hts in_Md hown hK hP 0 rfl rfl 3 (by decide) (hts _ w_283) (fun _ h9 => h9) rfl d_Md_isOn_121 ?_
            refine lv_iload_n hx hb d_Md_isOn_124 rfl (lv_at hl 4 rfl) ?_
            refine rf_iald hx hb hK hP 3 2 rfl rfl hk (by decide) d_Md_isOn_125 ?_
            exact J _ (if_neg (Int32.not_lt.mpr c_8)).symm
          · refine lv_aload_n hx hb d_Md_isOn_111 rfl (lv_at hl 3 rfl) ?_
            refine va_get (D := D) (ci := 4) (v := .ref t4) (C := "RayFieldModel") (T := F_Md) (N := 18) hx hb hts in_Md hown hK hP 0 rfl rfl 5 (by decide) (hts _ w_285) (fun _ h9 => h9) rfl d_Md_isOn_112 ?_
            refine lv_iload_n hx hb d_Md_isOn_115 rfl (lv_at hl 4 rfl) ?_
            refine rf_iald hx hb hK hP 5 4 rfl rfl hk (by decide) d_Md_isOn_116 ?_
            refine lv_goto (tgt := 126) hx hb d_Md_isOn_117 (by decide) ?_
            exact J _ (if_pos (Int32.not_le.mp c_8)).symm
      · refine lv_aload_n hx hb d_Md_isOn_64 rfl (lv_at hl 2 rfl) ?_
        refine va_get (D := D) (ci := 4) (v := .ref t2) (C := "RayFieldModel") (T := F_Md) (N := 18) hx hb hts in_Md hown hK hP 0 rfl rfl 3 (by decide) (hts _ w_283) (fun _ h9 => h9) rfl d_Md_isOn_65 ?_
        refine lv_iload_n hx hb d_Md_isOn_68 rfl (lv_at hl 3 rfl) ?_
        refine rf_iald hx hb hK hP 3 2 rfl rfl hk (by decide) d_Md_isOn_69 ?_
        refine lv_aload_n hx hb d_Md_isOn_70 rfl (lv_at hl 2 rfl) ?_
        refine va_get (D := D) (ci := 4) (v := .ref t4) (C := "RayFieldModel") (T := F_Md) (N := 18) hx hb hts in_Md hown hK hP 0 rfl rfl 5 (by decide) (hts _ w_285) (fun _ h9 => h9) rfl d_Md_isOn_71 ?_
        refine lv_iload_n hx hb d_Md_isOn_74 rfl (lv_at hl 3 rfl) ?_
        refine rf_iald hx hb hK hP 5 4 rfl rfl hk (by decide) d_Md_isOn_75 ?_
        refine lv_icmp_ge (tgt := 88) hx hb d_Md_isOn_76 (by decide) (fun c_9 => ?_) (fun c_9 => ?_)
        · refine lv_aload_n hx hb d_Md_isOn_88 rfl (lv_at hl 2 rfl) ?_
          refine va_get (D := D) (ci := 4) (v := .ref t4) (C := "RayFieldModel") (T := F_Md) (N := 18) hx hb hts in_Md hown hK hP 0 rfl rfl 5 (by decide) (hts _ w_285) (fun _ h9 => h9) rfl d_Md_isOn_89 ?_
          refine lv_iload_n hx hb d_Md_isOn_92 rfl (lv_at hl 3 rfl) ?_
          refine rf_iald hx hb hK hP 5 4 rfl rfl hk (by decide) d_Md_isOn_93 ?_
          exact J _ (if_neg (Int32.not_lt.mpr c_9)).symm
        · refine lv_aload_n hx hb d_Md_isOn_79 rfl (lv_at hl 2 rfl) ?_
          refine va_get (D := D) (ci := 4) (v := .ref t2) (C := "RayFieldModel") (T := F_Md) (N := 18) hx hb hts in_Md hown hK hP 0 rfl rfl 3 (by decide) (hts _ w_283) (fun _ h9 => h9) rfl d_Md_isOn_80 ?_
          refine lv_iload_n hx hb d_Md_isOn_83 rfl (lv_at hl 3 rfl) ?_
          refine rf_iald hx hb hK hP 3 2 rfl rfl hk (by decide) d_Md_isOn_84 ?_
          refine lv_goto (tgt := 94) hx hb d_Md_isOn_85 (by decide) ?_
          exact J _ (if_pos (Int32.not_le.mp c_9)).symm
    · refine lv_aload_n hx hb d_Md_isOn_32 rfl (lv_at hl 1 rfl) ?_
      refine va_get (D := D) (ci := 4) (v := .ref t1) (C := "RayFieldModel") (T := F_Md) (N := 18) hx hb hts in_Md hown hK hP 0 rfl rfl 2 (by decide) (hts _ w_282) (fun _ h9 => h9) rfl d_Md_isOn_33 ?_
      refine lv_iload_n hx hb d_Md_isOn_36 rfl (lv_at hl 2 rfl) ?_
      refine rf_iald hx hb hK hP 2 1 rfl rfl hk (by decide) d_Md_isOn_37 ?_
      refine lv_aload_n hx hb d_Md_isOn_38 rfl (lv_at hl 1 rfl) ?_
      refine va_get (D := D) (ci := 4) (v := .ref t3) (C := "RayFieldModel") (T := F_Md) (N := 18) hx hb hts in_Md hown hK hP 0 rfl rfl 4 (by decide) (hts _ w_284) (fun _ h9 => h9) rfl d_Md_isOn_39 ?_
      refine lv_iload_n hx hb d_Md_isOn_42 rfl (lv_at hl 2 rfl) ?_
      refine rf_iald hx hb hK hP 4 3 rfl rfl hk (by decide) d_Md_isOn_43 ?_
      refine lv_icmp_ge (tgt := 56) hx hb d_Md_isOn_44 (by decide) (fun c_10 => ?_) (fun c_10 => ?_)
      · refine lv_aload_n hx hb d_Md_isOn_56 rfl (lv_at hl 1 rfl) ?_
        refine va_get (D := D) (ci := 4) (v := .ref t1) (C := "RayFieldModel") (T := F_Md) (N := 18) hx hb hts in_Md hown hK hP 0 rfl rfl 2 (by decide) (hts _ w_282) (fun _ h9 => h9) rfl d_Md_isOn_57 ?_
        refine lv_iload_n hx hb d_Md_isOn_60 rfl (lv_at hl 2 rfl) ?_
        refine rf_iald hx hb hK hP 2 1 rfl rfl hk (by decide) d_Md_isOn_61 ?_
        exact J _ (if_neg (Int32.not_lt.mpr c_10)).symm
      · refine lv_aload_n hx hb d_Md_isOn_47 rfl (lv_at hl 1 rfl) ?_
        refine va_get (D := D) (ci := 4) (v := .ref t3) (C := "RayFieldModel") (T := F_Md) (N := 18) hx hb hts in_Md hown hK hP 0 rfl rfl 4 (by decide) (hts _ w_284) (fun _ h9 => h9) rfl d_Md_isOn_48 ?_
        refine lv_iload_n hx hb d_Md_isOn_51 rfl (lv_at hl 2 rfl) ?_
        refine rf_iald hx hb hK hP 4 3 rfl rfl hk (by decide) d_Md_isOn_52 ?_
        refine lv_goto (tgt := 62) hx hb d_Md_isOn_53 (by decide) ?_
        exact J _ (if_pos (Int32.not_le.mp c_10)).symm
  · refine lv_aload_n hx hb d_Md_isOn_0 rfl (lv_at hl 0 rfl) ?_
    refine va_get (D := D) (ci := 4) (v := .ref t1) (C := "RayFieldModel") (T := F_Md) (N := 18) hx hb hts in_Md hown hK hP 0 rfl rfl 2 (by decide) (hts _ w_282) (fun _ h9 => h9) rfl d_Md_isOn_1 ?_
    refine lv_iload_n hx hb d_Md_isOn_4 rfl (lv_at hl 1 rfl) ?_
    refine rf_iald hx hb hK hP 2 1 rfl rfl hk (by decide) d_Md_isOn_5 ?_
    refine lv_aload_n hx hb d_Md_isOn_6 rfl (lv_at hl 0 rfl) ?_
    refine va_get (D := D) (ci := 4) (v := .ref t3) (C := "RayFieldModel") (T := F_Md) (N := 18) hx hb hts in_Md hown hK hP 0 rfl rfl 4 (by decide) (hts _ w_284) (fun _ h9 => h9) rfl d_Md_isOn_7 ?_
    refine lv_iload_n hx hb d_Md_isOn_10 rfl (lv_at hl 1 rfl) ?_
    refine rf_iald hx hb hK hP 4 3 rfl rfl hk (by decide) d_Md_isOn_11 ?_
    refine lv_icmp_ge (tgt := 24) hx hb d_Md_isOn_12 (by decide) (fun c_11 => ?_) (fun c_11 => ?_)
    · refine lv_aload_n hx hb d_Md_isOn_24 rfl (lv_at hl 0 rfl) ?_
      refine va_get (D := D) (ci := 4) (v := .ref t3) (C := "RayFieldModel") (T := F_Md) (N := 18) hx hb hts in_Md hown hK hP 0 rfl rfl 4 (by decide) (hts _ w_284) (fun _ h9 => h9) rfl d_Md_isOn_25 ?_
      refine lv_iload_n hx hb d_Md_isOn_28 rfl (lv_at hl 1 rfl) ?_
      refine rf_iald hx hb hK hP 4 3 rfl rfl hk (by decide) d_Md_isOn_29 ?_
      exact J _ (if_neg (Int32.not_lt.mpr c_11)).symm
    · refine lv_aload_n hx hb d_Md_isOn_15 rfl (lv_at hl 0 rfl) ?_
      refine va_get (D := D) (ci := 4) (v := .ref t1) (C := "RayFieldModel") (T := F_Md) (N := 18) hx hb hts in_Md hown hK hP 0 rfl rfl 2 (by decide) (hts _ w_282) (fun _ h9 => h9) rfl d_Md_isOn_16 ?_
      refine lv_iload_n hx hb d_Md_isOn_19 rfl (lv_at hl 1 rfl) ?_
      refine rf_iald hx hb hK hP 2 1 rfl rfl hk (by decide) d_Md_isOn_20 ?_
      refine lv_goto (tgt := 30) hx hb d_Md_isOn_21 (by decide) ?_
      exact J _ (if_pos (Int32.not_le.mp c_11)).symm
set_option maxHeartbeats 4000000 in
set_option maxRecDepth 100000 in
theorem c_Md_down (l : Launch) (D : va_G) (tys : List (ClassId × FieldType)) (a b : Int64) (hy : ¬ b = 0) : Met l y_Md_down (.code y_Md_down b_Md_down 6 (some (.long)) :: BIG) { frames := 0, cells := 0, slots := 0, locals := 0 } (rf_Pc D tys [.long a, .long b] (fun _ => True)) (vp_Sl (fun r => r = k_down a b)) 0 0 (fun _ => False) := by
  refine Met.ofW (cc := b_Md_down) (maxL := 6) (ret := (some (.long))) (by decide) rfl ?_
  intro p e s m args below meth c s₁ B hml hv
  obtain ⟨rfl, hE, hP⟩ := hv
  have hx := B.exec
  have hb := B.bytes
  have hr := B.returns
  have hts : ∀ w ∈ BIG, w.before [.long a, .long b].toArray s = true := fun w h => atoms_spec (ws := .code y_Md_down b_Md_down 6 (some (.long)) :: BIG) B.pre w (List.mem_cons_of_mem _ h)
  have hown : s.vm.findClass "RayFieldModel" = some m.cls := findClass_of_methodNamed B.named
  have hlocks := B.notSynchronized
  have hK := hE.2
  have S0 : CallFix p m c b_Md_down 6 s [.long a, .long b].toArray BIG "RayFieldModel" := ⟨hx, hb, hml, hown, hts⟩
  have hl := lv_entry ([.long a, .long b]) (n := 6) (Nat.le_of_ble_eq_true rfl)
  rw [lg_entry_eq]
  generalize (lg_sl ([.long a, .long b]) ++ List.replicate (6 - (lg_sl ([.long a, .long b])).length) Slot.unset).toArray = ls at hl ⊢
  have hl : lv_has ls 6 [(0, .long a), (2, .long b)] := hl
  refine lv_lload_n hx hb d_Md_down_0 rfl (lv_at hl 0 rfl) ?_
  refine lv_lload_n hx hb d_Md_down_1 rfl (lv_at hl 1 rfl) ?_
  refine lv_ldiv hx hb d_Md_down_2 hy ?_
  refine lv_lstore (lv' := [(4, .long (a / b)), (0, .long a), (2, .long b)]) hx hb d_Md_down_3 hl (by decide) rfl (fun ls hl => ?_)
  refine lv_lload_n hx hb d_Md_down_5 rfl (lv_at hl 1 rfl) ?_
  refine lv_lload_n hx hb d_Md_down_6 rfl (lv_at hl 2 rfl) ?_
  refine lv_lrem hx hb d_Md_down_7 hy ?_
  refine lv_lconst (v := 0) hx hb d_Md_down_8 (by decide) ?_
  refine rf_lcmp_eq (tgt := 45) hx hb d_Md_down_9 d_Md_down_10 (by decide) (fun c_1 => ?_) (fun c_1 => ?_)
  · refine lv_lload hx hb d_Md_down_45 (lv_at hl 0 rfl) ?_
    exact W.lret (v := a / b) hx hb hr (fun t ht hW => ⟨_, rfl, (if_neg (fun h => h.1 c_1)).symm, ht⟩) (fun _ h => absurd h List.not_mem_nil) d_Md_down_47
  · refine lv_lload_n hx hb d_Md_down_13 rfl (lv_at hl 1 rfl) ?_
    refine lv_lconst (v := 0) hx hb d_Md_down_14 (by decide) ?_
    refine rf_lcmp_ge (tgt := 23) hx hb d_Md_down_15 d_Md_down_16 (by decide) (fun c_2 => ?_) (fun c_2 => ?_)
    · refine lv_iconst (v := 0) hx hb d_Md_down_23 (by decide) ?_
      refine lv_lload_n hx hb d_Md_down_24 rfl (lv_at hl 2 rfl) ?_
      refine lv_lconst (v := 0) hx hb d_Md_down_25 (by decide) ?_
      refine rf_lcmp_ge (tgt := 34) hx hb d_Md_down_26 d_Md_down_27 (by decide) (fun c_3 => ?_) (fun c_3 => ?_)
      · refine lv_iconst (v := 0) hx hb d_Md_down_34 (by decide) ?_
        refine lv_icmp_eq (tgt := 45) hx hb d_Md_down_35 (by decide) (fun c_4 => ?_) (fun c_4 => absurd rfl c_4)
        refine lv_lload hx hb d_Md_down_45 (lv_at hl 0 rfl) ?_
        exact W.lret (v := a / b) hx hb hr (fun t ht hW => ⟨_, rfl, (if_neg (fun h => h.2 ⟨fun q => absurd q (Int64.not_lt.mpr c_2), fun q => absurd q (Int64.not_lt.mpr c_3)⟩)).symm, ht⟩) (fun _ h => absurd h List.not_mem_nil) d_Md_down_47
      · refine lv_iconst (v := 1) hx hb d_Md_down_30 (by decide) ?_
        refine lv_goto (tgt := 35) hx hb d_Md_down_31 (by decide) ?_
        refine lv_icmp_eq (tgt := 45) hx hb d_Md_down_35 (by decide) (fun c_5 => absurd c_5 (by decide)) (fun c_5 => ?_)
        refine lv_lload hx hb d_Md_down_38 (lv_at hl 0 rfl) ?_
        refine lv_lconst (v := 1) hx hb d_Md_down_40 (by decide) ?_
        refine lv_lsub hx hb d_Md_down_41 ?_
        refine lv_goto (tgt := 47) hx hb d_Md_down_42 (by decide) ?_
        exact W.lret (v := (a / b) - 1) hx hb hr (fun t ht hW => ⟨_, rfl, (if_pos ⟨c_1, (fun h => (Int64.not_lt.mpr c_2) (h.mpr (Int64.not_le.mp c_3)))⟩).symm, ht⟩) (fun _ h => absurd h List.not_mem_nil) d_Md_down_47
    · refine lv_iconst (v := 1) hx hb d_Md_down_19 (by decide) ?_
      refine lv_goto (tgt := 24) hx hb d_Md_down_20 (by decide) ?_
      refine lv_lload_n hx hb d_Md_down_24 rfl (lv_at hl 2 rfl) ?_
      refine lv_lconst (v := 0) hx hb d_Md_down_25 (by decide) ?_
      refine rf_lcmp_ge (tgt := 34) hx hb d_Md_down_26 d_Md_down_27 (by decide) (fun c_6 => ?_) (fun c_6 => ?_)
      · refine lv_iconst (v := 0) hx hb d_Md_down_34 (by decide) ?_
        refine lv_icmp_eq (tgt := 45) hx hb d_Md_down_35 (by decide) (fun c_7 => absurd c_7 (by decide)) (fun c_7 => ?_)
        refine lv_lload hx hb d_Md_down_38 (lv_at hl 0 rfl) ?_
        refine lv_lconst (v := 1) hx hb d_Md_down_40 (by decide) ?_
        refine lv_lsub hx hb d_Md_down_41 ?_
        refine lv_goto (tgt := 47) hx hb d_Md_down_42 (by decide) ?_
        exact W.lret (v := (a / b) - 1) hx hb hr (fun t ht hW => ⟨_, rfl, (if_pos ⟨c_1, (fun h => (Int64.not_lt.mpr c_6) (h.mp (Int64.not_le.mp c_2)))⟩).symm, ht⟩) (fun _ h => absurd h List.not_mem_nil) d_Md_down_47
      · refine lv_iconst (v := 1) hx hb d_Md_down_30 (by decide) ?_
        refine lv_goto (tgt := 35) hx hb d_Md_down_31 (by decide) ?_
        refine lv_icmp_eq (tgt := 45) hx hb d_Md_down_35 (by decide) (fun c_8 => ?_) (fun c_8 => absurd rfl c_8)
        refine lv_lload hx hb d_Md_down_45 (lv_at hl 0 rfl) ?_
        exact W.lret (v := a / b) hx hb hr (fun t ht hW => ⟨_, rfl, (if_neg (fun h => h.2 ⟨fun _ => (Int64.not_le.mp c_6), fun _ => (Int64.not_le.mp c_2)⟩)).symm, ht⟩) (fun _ h => absurd h List.not_mem_nil) d_Md_down_47
end
section
set_option maxHeartbeats 4000000 in
set_option maxRecDepth 100000 in
theorem c_Md_areApart (l : Launch) (D : va_G) (y t0 t1 t2 t3 t4 t5 : Nat) (c0 c1 c2 c3 c4 c5 : ClassId) (ma ha ex ey dx dy : Int32) (ab be : Int64) (ri : Int32) (o1 o2 : Int64) (f0 f1 f2 f3 f4 f5 : Nat → Int32) (i j : Nat) (hi : i < 64) (hj : j < 64) : Met l y_Md_areApart (.code y_Md_areApart b_Md_areApart 14 (some (.boolean)) :: BIG) { frames := 2, cells := 0, slots := 0, locals := 80 } (rf_Pc D (y_t c0 c1 c2 c3 c4 c5) [.ref y, .int (nI i), .int (nI j)] (fun h => va_P D vwCl (y_7 y t0 t1 t2 t3 t4 t5 c0 c1 c2 c3 c4 c5 ma ha ex ey dx dy ab be ri o1 o2 f0 f1 f2 f3 f4 f5) h)) (vp_Si (fun r => rf_tf r (k_apart (f1 i, f2 i, f3 i, f4 i) (f1 j, f2 j, f3 j, f4 j)))) 0 0 (fun _ => False) := by
  refine Met.ofW (cc := b_Md_areApart) (maxL := 14) (ret := (some (.boolean))) (by decide) rfl ?_
  intro p e s m args below meth c s₁ B hml hv
  obtain ⟨rfl, hE, hP⟩ := hv
  have hx := B.exec
  have hb := B.bytes
  have hr := B.returns
  have hts : ∀ w ∈ BIG, w.before [.ref y, .int (nI i), .int (nI j)].toArray s = true := fun w h => atoms_spec (ws := .code y_Md_areApart b_Md_areApart 14 (some (.boolean)) :: BIG) B.pre w (List.mem_cons_of_mem _ h)
  have hown : s.vm.findClass "RayFieldModel" = some m.cls := findClass_of_methodNamed B.named
  have hlocks := B.notSynchronized
  have hK := hE.2
  have S0 : CallFix p m c b_Md_areApart 14 s [.ref y, .int (nI i), .int (nI j)].toArray BIG "RayFieldModel" := ⟨hx, hb, hml, hown, hts⟩
  have hl := lv_entry ([.ref y, .int (nI i), .int (nI j)]) (n := 14) (Nat.le_of_ble_eq_true rfl)
  rw [lg_entry_eq]
  generalize (lg_sl ([.ref y, .int (nI i), .int (nI j)]) ++ List.replicate (14 - (lg_sl ([.ref y, .int (nI i), .int (nI j)])).length) Slot.unset).toArray = ls at hl ⊢
  have hl : lv_has ls 14 [(0, .ref y), (1, .int (nI i)), (2, .int (nI j))] := hl
  have hP : va_P D vwCl (y_7 y t0 t1 t2 t3 t4 t5 c0 c1 c2 c3 c4 c5 ma ha ex ey dx dy ab be ri o1 o2 f0 f1 f2 f3 f4 f5) s.heap := hP
  refine lv_aload_n hx hb d_Md_areApart_0 rfl (lv_at hl 0 rfl) ?_
  refine va_get (D := D) (ci := 4) (v := .ref t3) (C := "RayFieldModel") (T := F_Md) (N := 18) hx hb hts in_Md hown hK hP 0 rfl rfl 4 (by decide) (hts _ w_284) (fun _ h9 => h9) rfl d_Md_areApart_1 ?_
  refine lv_iload_n hx hb d_Md_areApart_4 rfl (lv_at hl 1 rfl) ?_
  refine rf_iald hx hb hK hP 4 3 rfl rfl hi (by decide) d_Md_areApart_5 ?_
  refine lv_aload_n hx hb d_Md_areApart_6 rfl (lv_at hl 0 rfl) ?_
  refine va_get (D := D) (ci := 4) (v := .ref t1) (C := "RayFieldModel") (T := F_Md) (N := 18) hx hb hts in_Md hown hK hP 0 rfl rfl 2 (by decide) (hts _ w_282) (fun _ h9 => h9) rfl d_Md_areApart_7 ?_
  refine lv_iload_n hx hb d_Md_areApart_10 rfl (lv_at hl 1 rfl) ?_
  refine rf_iald hx hb hK hP 2 1 rfl rfl hi (by decide) d_Md_areApart_11 ?_
  refine lv_isub hx hb d_Md_areApart_12 ?_
  refine lv_i2l hx hb d_Md_areApart_13 rfl ?_
  refine lv_aload_n hx hb d_Md_areApart_14 rfl (lv_at hl 0 rfl) ?_
  refine va_get (D := D) (ci := 4) (v := .ref t4) (C := "RayFieldModel") (T := F_Md) (N := 18) hx hb hts in_Md hown hK hP 0 rfl rfl 5 (by decide) (hts _ w_285) (fun _ h9 => h9) rfl d_Md_areApart_15 ?_
  refine lv_iload_n hx hb d_Md_areApart_18 rfl (lv_at hl 1 rfl) ?_
  refine rf_iald hx hb hK hP 5 4 rfl rfl hi (by decide) d_Md_areApart_19 ?_
  refine lv_aload_n hx hb d_Md_areApart_20 rfl (lv_at hl 0 rfl) ?_
  refine va_get (D := D) (ci := 4) (v := .ref t2) (C := "RayFieldModel") (T := F_Md) (N := 18) hx hb hts in_Md hown hK hP 0 rfl rfl 3 (by decide) (hts _ w_283) (fun _ h9 => h9) rfl d_Md_areApart_21 ?_
  refine lv_iload_n hx hb d_Md_areApart_24 rfl (lv_at hl 1 rfl) ?_
  refine rf_iald hx hb hK hP 3 2 rfl rfl hi (by decide) d_Md_areApart_25 ?_
  refine lv_isub hx hb d_Md_areApart_26 ?_
  refine lv_i2l hx hb d_Md_areApart_27 rfl ?_
  refine lv_aload_n hx hb d_Md_areApart_28 rfl (lv_at hl 0 rfl) ?_
  refine va_get (D := D) (ci := 4) (v := .ref t1) (C := "RayFieldModel") (T := F_Md) (N := 18) hx hb hts in_Md hown hK hP 0 rfl rfl 2 (by decide) (hts _ w_282) (fun _ h9 => h9) rfl d_Md_areApart_29 ?_
  refine lv_iload_n hx hb d_Md_areApart_32 rfl (lv_at hl 2 rfl) ?_
  refine rf_iald hx hb hK hP 2 1 rfl rfl hj (by decide) d_Md_areApart_33 ?_
  refine lv_aload_n hx hb d_Md_areApart_34 rfl (lv_at hl 0 rfl) ?_
  refine va_get (D := D) (ci := 4) (v := .ref t1) (C := "RayFieldModel") (T := F_Md) (N := 18) hx hb hts in_Md hown hK hP 0 rfl rfl 2 (by decide) (hts _ w_282) (fun _ h9 => h9) rfl d_Md_areApart_35 ?_
  refine lv_iload_n hx hb d_Md_areApart_38 rfl (lv_at hl 1 rfl) ?_
  refine rf_iald hx hb hK hP 2 1 rfl rfl hi (by decide) d_Md_areApart_39 ?_
  refine lv_isub hx hb d_Md_areApart_40 ?_
  refine lv_i2l hx hb d_Md_areApart_41 rfl ?_
  refine lv_aload_n hx hb d_Md_areApart_42 rfl (lv_at hl 0 rfl) ?_
  refine va_get (D := D) (ci := 4) (v := .ref t2) (C := "RayFieldModel") (T := F_Md) (N := 18) hx hb hts in_Md hown hK hP 0 rfl rfl 3 (by decide) (hts _ w_283) (fun _ h9 => h9) rfl d_Md_areApart_43 ?_
  refine lv_iload_n hx hb d_Md_areApart_46 rfl (lv_at hl 2 rfl) ?_
  refine rf_iald hx hb hK hP 3 2 rfl rfl hj (by decide) d_Md_areApart_47 ?_
  refine lv_aload_n hx hb d_Md_areApart_48 rfl (lv_at hl 0 rfl) ?_
  refine va_get (D := D) (ci := 4) (v := .ref t2) (C := "RayFieldModel") (T := F_Md) (N := 18) hx hb hts in_Md hown hK hP 0 rfl rfl 3 (by decide) (hts _ w_283) (fun _ h9 => h9) rfl d_Md_areApart_49 ?_
  refine lv_iload_n hx hb d_Md_areApart_52 rfl (lv_at hl 1 rfl) ?_
  refine rf_iald hx hb hK hP 3 2 rfl rfl hi (by decide) d_Md_areApart_53 ?_
  refine lv_isub hx hb d_Md_areApart_54 ?_
  refine lv_i2l hx hb d_Md_areApart_55 rfl ?_
  refine vp_callSl (va_Run.run (rf_runS (As := [.long (((f3 i) - (f1 i)).toInt64), .long (((f4 i) - (f2 i)).toInt64), .long (((f1 j) - (f1 i)).toInt64), .long (((f2 j) - (f2 i)).toInt64)]) (rest := []) S0 ml_Md_33 (c_Md_cross l D (y_t c0 c1 c2 c3 c4 c5) (((f3 i) - (f1 i)).toInt64) (((f4 i) - (f2 i)).toInt64) (((f1 j) - (f1 i)).toInt64) (((f2 j) - (f2 i)).toInt64)) hE trivial ⟨rfl, rfl, Nat.le_of_ble_eq_true rfl, Nat.le_of_ble_eq_true rfl⟩ rfl hl.1 rfl (Nat.le_of_ble_eq_true rfl) d_Md_areApart_56 ⟨Nat.zero_le _, Nat.zero_le _⟩)) (fun r_1 h_2 => ?_)
  subst h_2
  refine rf_topl (y := m_side (f1 i, f2 i, f3 i, f4 i) (f1 j) (f2 j)) rfl ?_
  refine lv_lstore_n (lv' := [(3, .long (m_side (f1 i, f2 i, f3 i, f4 i) (f1 j) (f2 j))), (0, .ref y), (1, .int (nI i)), (2, .int (nI j))]) hx hb d_Md_areApart_59 rfl hl (by decide) rfl (fun ls hl => ?_)
  refine lv_aload_n hx hb d_Md_areApart_60 rfl (lv_at hl 1 rfl) ?_
  refine va_get (D := D) (ci := 4) (v := .ref t3) (C := "RayFieldModel") (T := F_Md) (N := 18) hx hb hts in_Md hown hK hP 0 rfl rfl 4 (by decide) (hts _ w_284) (fun _ h9 => h9) rfl d_Md_areApart_61 ?_
  refine lv_iload_n hx hb d_Md_areApart_64 rfl (lv_at hl 2 rfl) ?_
  refine rf_iald hx hb hK hP 4 3 rfl rfl hi (by decide) d_Md_areApart_65 ?_
  refine lv_aload_n hx hb d_Md_areApart_66 rfl (lv_at hl 1 rfl) ?_
  refine va_get (D := D) (ci := 4) (v := .ref t1) (C := "RayFieldModel") (T := F_Md) (N := 18) hx hb hts in_Md hown hK hP 0 rfl rfl 2 (by decide) (hts _ w_282) (fun _ h9 => h9) rfl d_Md_areApart_67 ?_
  refine lv_iload_n hx hb d_Md_areApart_70 rfl (lv_at hl 2 rfl) ?_
  refine rf_iald hx hb hK hP 2 1 rfl rfl hi (by decide) d_Md_areApart_71 ?_
  refine lv_isub hx hb d_Md_areApart_72 ?_
  refine lv_i2l hx hb d_Md_areApart_73 rfl ?_
  refine lv_aload_n hx hb d_Md_areApart_74 rfl (lv_at hl 1 rfl) ?_
  refine va_get (D := D) (ci := 4) (v := .ref t4) (C := "RayFieldModel") (T := F_Md) (N := 18) hx hb hts in_Md hown hK hP 0 rfl rfl 5 (by decide) (hts _ w_285) (fun _ h9 => h9) rfl d_Md_areApart_75 ?_
  refine lv_iload_n hx hb d_Md_areApart_78 rfl (lv_at hl 2 rfl) ?_
  refine rf_iald hx hb hK hP 5 4 rfl rfl hi (by decide) d_Md_areApart_79 ?_
  refine lv_aload_n hx hb d_Md_areApart_80 rfl (lv_at hl 1 rfl) ?_
  refine va_get (D := D) (ci := 4) (v := .ref t2) (C := "RayFieldModel") (T := F_Md) (N := 18) hx hb hts in_Md hown hK hP 0 rfl rfl 3 (by decide) (hts _ w_283) (fun _ h9 => h9) rfl d_Md_areApart_81 ?_
  refine lv_iload_n hx hb d_Md_areApart_84 rfl (lv_at hl 2 rfl) ?_
  refine rf_iald hx hb hK hP 3 2 rfl rfl hi (by decide) d_Md_areApart_85 ?_
  refine lv_isub hx hb d_Md_areApart_86 ?_
  refine lv_i2l hx hb d_Md_areApart_87 rfl ?_
  refine lv_aload_n hx hb d_Md_areApart_88 rfl (lv_at hl 1 rfl) ?_
  refine va_get (D := D) (ci := 4) (v := .ref t3) (C := "RayFieldModel") (T := F_Md) (N := 18) hx hb hts in_Md hown hK hP 0 rfl rfl 4 (by decide) (hts _ w_284) (fun _ h9 => h9) rfl d_Md_areApart_89 ?_
  refine lv_iload_n hx hb d_Md_areApart_92 rfl (lv_at hl 3 rfl) ?_
  refine rf_iald hx hb hK hP 4 3 rfl rfl hj (by decide) d_Md_areApart_93 ?_
  refine lv_aload_n hx hb d_Md_areApart_94 rfl (lv_at hl 1 rfl) ?_
  refine va_get (D := D) (ci := 4) (v := .ref t1) (C := "RayFieldModel") (T := F_Md) (N := 18) hx hb hts in_Md hown hK hP 0 rfl rfl 2 (by decide) (hts _ w_282) (fun _ h9 => h9) rfl d_Md_areApart_95 ?_
  refine lv_iload_n hx hb d_Md_areApart_98 rfl (lv_at hl 2 rfl) ?_
  refine rf_iald hx hb hK hP 2 1 rfl rfl hi (by decide) d_Md_areApart_99 ?_
  refine lv_isub hx hb d_Md_areApart_100 ?_
  refine lv_i2l hx hb d_Md_areApart_101 rfl ?_
  refine lv_aload_n hx hb d_Md_areApart_102 rfl (lv_at hl 1 rfl) ?_
  refine va_get (D := D) (ci := 4) (v := .ref t4) (C := "RayFieldModel") (T := F_Md) (N := 18) hx hb hts in_Md hown hK hP 0 rfl rfl 5 (by decide) (hts _ w_285) (fun _ h9 => h9) rfl d_Md_areApart_103 ?_
  refine lv_iload_n hx hb d_Md_areApart_106 rfl (lv_at hl 3 rfl) ?_
  refine rf_iald hx hb hK hP 5 4 rfl rfl hj (by decide) d_Md_areApart_107 ?_
  refine lv_aload_n hx hb d_Md_areApart_108 rfl (lv_at hl 1 rfl) ?_
  refine va_get (D := D) (ci := 4) (v := .ref t2) (C := "RayFieldModel") (T := F_Md) (N := 18) hx hb hts in_Md hown hK hP 0 rfl rfl 3 (by decide) (hts _ w_283) (fun _ h9 => h9) rfl d_Md_areApart_109 ?_
  refine lv_iload_n hx hb d_Md_areApart_112 rfl (lv_at hl 2 rfl) ?_
  refine rf_iald hx hb hK hP 3 2 rfl rfl hi (by decide) d_Md_areApart_113 ?_
  refine lv_isub hx hb d_Md_areApart_114 ?_
  refine lv_i2l hx hb d_Md_areApart_115 rfl ?_
  refine vp_callSl (va_Run.run (rf_runS (As := [.long (((f3 i) - (f1 i)).toInt64), .long (((f4 i) - (f2 i)).toInt64), .long (((f3 j) - (f1 i)).toInt64), .long (((f4 j) - (f2 i)).toInt64)]) (rest := []) S0 ml_Md_33 (c_Md_cross l D (y_t c0 c1 c2 c3 c4 c5) (((f3 i) - (f1 i)).toInt64) (((f4 i) - (f2 i)).toInt64) (((f3 j) - (f1 i)).toInt64) (((f4 j) - (f2 i)).toInt64)) hE trivial ⟨rfl, rfl, Nat.le_of_ble_eq_true rfl, Nat.le_of_ble_eq_true rfl⟩ rfl hl.1 rfl (Nat.le_of_ble_eq_true rfl) d_Md_areApart_116 ⟨Nat.zero_le _, Nat.zero_le _⟩)) (fun r_3 h_4 => ?_)
  subst h_4
  refine rf_topl (y := m_side (f1 i, f2 i, f3 i, f4 i) (f3 j) (f4 j)) rfl ?_
  refine lv_lstore (lv' := [(5, .long (m_side (f1 i, f2 i, f3 i, f4 i) (f3 j) (f4 j))), (3, .long (m_side (f1 i, f2 i, f3 i, f4 i) (f1 j) (f2 j))), (0, .ref y), (1, .int (nI i)), (2, .int (nI j))]) hx hb d_Md_areApart_119 hl (by decide) rfl (fun ls hl => ?_)
  refine lv_aload_n hx hb d_Md_areApart_121 rfl (lv_at hl 2 rfl) ?_
  refine va_get (D := D) (ci := 4) (v := .ref t3) (C := "RayFieldModel") (T := F_Md) (N := 18) hx hb hts in_Md hown hK hP 0 rfl rfl 4 (by decide) (hts _ w_284) (fun _ h9 => h9) rfl d_Md_areApart_122 ?_
  refine lv_iload_n hx hb d_Md_areApart_125 rfl (lv_at hl 4 rfl) ?_
  refine rf_iald hx hb hK hP 4 3 rfl rfl hj (by decide) d_Md_areApart_126 ?_
  refine lv_aload_n hx hb d_Md_areApart_127 rfl (lv_at hl 2 rfl) ?_
  refine va_get (D := D) (ci := 4) (v := .ref t1) (C := "RayFieldModel") (T := F_Md) (N := 18) hx hb hts in_Md hown hK hP 0 rfl rfl 2 (by decide) (hts _ w_282) (fun _ h9 => h9) rfl d_Md_areApart_128 ?_
  refine lv_iload_n hx hb d_Md_areApart_131 rfl (lv_at hl 4 rfl) ?_
  refine rf_iald hx hb hK hP 2 1 rfl rfl hj (by decide) d_Md_areApart_132 ?_
  refine lv_isub hx hb d_Md_areApart_133 ?_
  refine lv_i2l hx hb d_Md_areApart_134 rfl ?_
  refine lv_aload_n hx hb d_Md_areApart_135 rfl (lv_at hl 2 rfl) ?_
  refine va_get (D := D) (ci := 4) (v := .ref t4) (C := "RayFieldModel") (T := F_Md) (N := 18) hx hb hts in_Md hown hK hP 0 rfl rfl 5 (by decide) (hts _ w_285) (fun _ h9 => h9) rfl d_Md_areApart_136 ?_
  refine lv_iload_n hx hb d_Md_areApart_139 rfl (lv_at hl 4 rfl) ?_
  refine rf_iald hx hb hK hP 5 4 rfl rfl hj (by decide) d_Md_areApart_140 ?_
  refine lv_aload_n hx hb d_Md_areApart_141 rfl (lv_at hl 2 rfl) ?_
  refine va_get (D := D) (ci := 4) (v := .ref t2) (C := "RayFieldModel") (T := F_Md) (N := 18) hx hb hts in_Md hown hK hP 0 rfl rfl 3 (by decide) (hts _ w_283) (fun _ h9 => h9) rfl d_Md_areApart_142 ?_
  refine lv_iload_n hx hb d_Md_areApart_145 rfl (lv_at hl 4 rfl) ?_
  refine rf_iald hx hb hK hP 3 2 rfl rfl hj (by decide) d_Md_areApart_146 ?_
  refine lv_isub hx hb d_Md_areApart_147 ?_
  refine lv_i2l hx hb d_Md_areApart_148 rfl ?_
  refine lv_aload_n hx hb d_Md_areApart_149 rfl (lv_at hl 2 rfl) ?_
  refine va_get (D := D) (ci := 4) (v := .ref t1) (C := "RayFieldModel") (T := F_Md) (N := 18) hx hb hts in_Md hown hK hP 0 rfl rfl 2 (by decide) (hts _ w_282) (fun _ h9 => h9) rfl d_Md_areApart_150 ?_
  refine lv_iload_n hx hb d_Md_areApart_153 rfl (lv_at hl 3 rfl) ?_
  refine rf_iald hx hb hK hP 2 1 rfl rfl hi (by decide) d_Md_areApart_154 ?_
  refine lv_aload_n hx hb d_Md_areApart_155 rfl (lv_at hl 2 rfl) ?_
  refine va_get (D := D) (ci := 4) (v := .ref t1) (C := "RayFieldModel") (T := F_Md) (N := 18) hx hb hts in_Md hown hK hP 0 rfl rfl 2 (by decide) (hts _ w_282) (fun _ h9 => h9) rfl d_Md_areApart_156 ?_
  refine lv_iload_n hx hb d_Md_areApart_159 rfl (lv_at hl 4 rfl) ?_
  refine rf_iald hx hb hK hP 2 1 rfl rfl hj (by decide) d_Md_areApart_160 ?_
  refine lv_isub hx hb d_Md_areApart_161 ?_
  refine lv_i2l hx hb d_Md_areApart_162 rfl ?_
  refine lv_aload_n hx hb d_Md_areApart_163 rfl (lv_at hl 2 rfl) ?_
  refine va_get (D := D) (ci := 4) (v := .ref t2) (C := "RayFieldModel") (T := F_Md) (N := 18) hx hb hts in_Md hown hK hP 0 rfl rfl 3 (by decide) (hts _ w_283) (fun _ h9 => h9) rfl d_Md_areApart_164 ?_
  refine lv_iload_n hx hb d_Md_areApart_167 rfl (lv_at hl 3 rfl) ?_
  refine rf_iald hx hb hK hP 3 2 rfl rfl hi (by decide) d_Md_areApart_168 ?_
  refine lv_aload_n hx hb d_Md_areApart_169 rfl (lv_at hl 2 rfl) ?_
  refine va_get (D := D) (ci := 4) (v := .ref t2) (C := "RayFieldModel") (T := F_Md) (N := 18) hx hb hts in_Md hown hK hP 0 rfl rfl 3 (by decide) (hts _ w_283) (fun _ h9 => h9) rfl d_Md_areApart_170 ?_
  refine lv_iload_n hx hb d_Md_areApart_173 rfl (lv_at hl 4 rfl) ?_
  refine rf_iald hx hb hK hP 3 2 rfl rfl hj (by decide) d_Md_areApart_174 ?_
  refine lv_isub hx hb d_Md_areApart_175 ?_
  refine lv_i2l hx hb d_Md_areApart_176 rfl ?_
  refine vp_callSl (va_Run.run (rf_runS (As := [.long (((f3 j) - (f1 j)).toInt64), .long (((f4 j) - (f2 j)).toInt64), .long (((f1 i) - (f1 j)).toInt64), .long (((f2 i) - (f2 j)).toInt64)]) (rest := []) S0 ml_Md_33 (c_Md_cross l D (y_t c0 c1 c2 c3 c4 c5) (((f3 j) - (f1 j)).toInt64) (((f4 j) - (f2 j)).toInt64) (((f1 i) - (f1 j)).toInt64) (((f2 i) - (f2 j)).toInt64)) hE trivial ⟨rfl, rfl, Nat.le_of_ble_eq_true rfl, Nat.le_of_ble_eq_true rfl⟩ rfl hl.1 rfl (Nat.le_of_ble_eq_true rfl) d_Md_areApart_177 ⟨Nat.zero_le _, Nat.zero_le _⟩)) (fun r_5 h_6 => ?_)
  subst h_6
  refine rf_topl (y := m_side (f1 j, f2 j, f3 j, f4 j) (f1 i) (f2 i)) rfl ?_
  refine lv_lstore (lv' := [(7, .long (m_side (f1 j, f2 j, f3 j, f4 j) (f1 i) (f2 i))), (5, .long (m_side (f1 i, f2 i, f3 i, f4 i) (f3 j) (f4 j))), (3, .long (m_side (f1 i, f2 i, f3 i, f4 i) (f1 j) (f2 j))), (0, .ref y), (1, .int (nI i)), (2, .int (nI j))]) hx hb d_Md_areApart_180 hl (by decide) rfl (fun ls hl => ?_)
  refine lv_aload_n hx hb d_Md_areApart_182 rfl (lv_at hl 3 rfl) ?_
  refine va_get (D := D) (ci := 4) (v := .ref t3) (C := "RayFieldModel") (T := F_Md) (N := 18) hx hb hts in_Md hown hK hP 0 rfl rfl 4 (by decide) (hts _ w_284) (fun _ h9 => h9) rfl d_Md_areApart_183 ?_
  refine lv_iload_n hx hb d_Md_areApart_186 rfl (lv_at hl 5 rfl) ?_
  refine rf_iald hx hb hK hP 4 3 rfl rfl hj (by decide) d_Md_areApart_187 ?_
  refine lv_aload_n hx hb d_Md_areApart_188 rfl (lv_at hl 3 rfl) ?_
  refine va_get (D := D) (ci := 4) (v := .ref t1) (C := "RayFieldModel") (T := F_Md) (N := 18) hx hb hts in_Md hown hK hP 0 rfl rfl 2 (by decide) (hts _ w_282) (fun _ h9 => h9) rfl d_Md_areApart_189 ?_
  refine lv_iload_n hx hb d_Md_areApart_192 rfl (lv_at hl 5 rfl) ?_
  refine rf_iald hx hb hK hP 2 1 rfl rfl hj (by decide) d_Md_areApart_193 ?_
  refine lv_isub hx hb d_Md_areApart_194 ?_
  refine lv_i2l hx hb d_Md_areApart_195 rfl ?_
  refine lv_aload_n hx hb d_Md_areApart_196 rfl (lv_at hl 3 rfl) ?_
  refine va_get (D := D) (ci := 4) (v := .ref t4) (C := "RayFieldModel") (T := F_Md) (N := 18) hx hb hts in_Md hown hK hP 0 rfl rfl 5 (by decide) (hts _ w_285) (fun _ h9 => h9) rfl d_Md_areApart_197 ?_
  refine lv_iload_n hx hb d_Md_areApart_200 rfl (lv_at hl 5 rfl) ?_
  refine rf_iald hx hb hK hP 5 4 rfl rfl hj (by decide) d_Md_areApart_201 ?_
  refine lv_aload_n hx hb d_Md_areApart_202 rfl (lv_at hl 3 rfl) ?_
  refine va_get (D := D) (ci := 4) (v := .ref t2) (C := "RayFieldModel") (T := F_Md) (N := 18) hx hb hts in_Md hown hK hP 0 rfl rfl 3 (by decide) (hts _ w_283) (fun _ h9 => h9) rfl d_Md_areApart_203 ?_
  refine lv_iload_n hx hb d_Md_areApart_206 rfl (lv_at hl 5 rfl) ?_
  refine rf_iald hx hb hK hP 3 2 rfl rfl hj (by decide) d_Md_areApart_207 ?_
  refine lv_isub hx hb d_Md_areApart_208 ?_
  refine lv_i2l hx hb d_Md_areApart_209 rfl ?_
  refine lv_aload_n hx hb d_Md_areApart_210 rfl (lv_at hl 3 rfl) ?_
  refine va_get (D := D) (ci := 4) (v := .ref t3) (C := "RayFieldModel") (T := F_Md) (N := 18) hx hb hts in_Md hown hK hP 0 rfl rfl 4 (by decide) (hts _ w_284) (fun _ h9 => h9) rfl d_Md_areApart_211 ?_
  refine lv_iload_n hx hb d_Md_areApart_214 rfl (lv_at hl 4 rfl) ?_
  refine rf_iald hx hb hK hP 4 3 rfl rfl hi (by decide) d_Md_areApart_215 ?_
  refine lv_aload_n hx hb d_Md_areApart_216 rfl (lv_at hl 3 rfl) ?_
  refine va_get (D := D) (ci := 4) (v := .ref t1) (C := "RayFieldModel") (T := F_Md) (N := 18) hx hb hts in_Md hown hK hP 0 rfl rfl 2 (by decide) (hts _ w_282) (fun _ h9 => h9) rfl d_Md_areApart_217 ?_
  refine lv_iload_n hx hb d_Md_areApart_220 rfl (lv_at hl 5 rfl) ?_
  refine rf_iald hx hb hK hP 2 1 rfl rfl hj (by decide) d_Md_areApart_221 ?_
  refine lv_isub hx hb d_Md_areApart_222 ?_
  refine lv_i2l hx hb d_Md_areApart_223 rfl ?_
  refine lv_aload_n hx hb d_Md_areApart_224 rfl (lv_at hl 3 rfl) ?_
  refine va_get (D := D) (ci := 4) (v := .ref t4) (C := "RayFieldModel") (T := F_Md) (N := 18) hx hb hts in_Md hown hK hP 0 rfl rfl 5 (by decide) (hts _ w_285) (fun _ h9 => h9) rfl d_Md_areApart_225 ?_
  refine lv_iload_n hx hb d_Md_areApart_228 rfl (lv_at hl 4 rfl) ?_
  refine rf_iald hx hb hK hP 5 4 rfl rfl hi (by decide) d_Md_areApart_229 ?_
  refine lv_aload_n hx hb d_Md_areApart_230 rfl (lv_at hl 3 rfl) ?_
  refine va_get (D := D) (ci := 4) (v := .ref t2) (C := "RayFieldModel") (T := F_Md) (N := 18) hx hb hts in_Md hown hK hP 0 rfl rfl 3 (by decide) (hts _ w_283) (fun _ h9 => h9) rfl d_Md_areApart_231 ?_
  refine lv_iload_n hx hb d_Md_areApart_234 rfl (lv_at hl 5 rfl) ?_
  refine rf_iald hx hb hK hP 3 2 rfl rfl hj (by decide) d_Md_areApart_235 ?_
  refine lv_isub hx hb d_Md_areApart_236 ?_
  refine lv_i2l hx hb d_Md_areApart_237 rfl ?_
  refine vp_callSl (va_Run.run (rf_runS (As := [.long (((f3 j) - (f1 j)).toInt64), .long (((f4 j) - (f2 j)).toInt64), .long (((f3 i) - (f1 j)).toInt64), .long (((f4 i) - (f2 j)).toInt64)]) (rest := []) S0 ml_Md_33 (c_Md_cross l D (y_t c0 c1 c2 c3 c4 c5) (((f3 j) - (f1 j)).toInt64) (((f4 j) - (f2 j)).toInt64) (((f3 i) - (f1 j)).toInt64) (((f4 i) - (f2 j)).toInt64)) hE trivial ⟨rfl, rfl, Nat.le_of_ble_eq_true rfl, Nat.le_of_ble_eq_true rfl⟩ rfl hl.1 rfl (Nat.le_of_ble_eq_true rfl) d_Md_areApart_238 ⟨Nat.zero_le _, Nat.zero_le _⟩)) (fun r_7 h_8 => ?_)
  subst h_8
  refine rf_topl (y := m_side (f1 j, f2 j, f3 j, f4 j) (f3 i) (f4 i)) rfl ?_
  refine lv_lstore (lv' := [(9, .long (m_side (f1 j, f2 j, f3 j, f4 j) (f3 i) (f4 i))), (7, .long (m_side (f1 j, f2 j, f3 j, f4 j) (f1 i) (f2 i))), (5, .long (m_side (f1 i, f2 i, f3 i, f4 i) (f3 j) (f4 j))), (3, .long (m_side (f1 i, f2 i, f3 i, f4 i) (f1 j) (f2 j))), (0, .ref y), (1, .int (nI i)), (2, .int (nI j))]) hx hb d_Md_areApart_241 hl (by decide) rfl (fun ls hl => ?_)
  refine rf_joinI 302 [] (fun b => rf_tf b (k_cuts (f1 i, f2 i, f3 i, f4 i) (f1 j, f2 j, f3 j, f4 j))) (fun qc hqc => ?_) (fun J => ?_)
  · refine lv_istore (lv' := [(11, .int qc), (9, .long (m_side (f1 j, f2 j, f3 j, f4 j) (f3 i) (f4 i))), (7, .long (m_side (f1 j, f2 j, f3 j, f4 j) (f1 i) (f2 i))), (5, .long (m_side (f1 i, f2 i, f3 i, f4 i) (f3 j) (f4 j))), (3, .long (m_side (f1 i, f2 i, f3 i, f4 i) (f1 j) (f2 j))), (0, .ref y), (1, .int (nI i)), (2, .int (nI j))]) hx hb d_Md_areApart_302 hl (by decide) rfl (fun ls hl => ?_)
    refine rf_joinI 349 [] (fun b => rf_tf b (k_same (f1 i, f2 i, f3 i, f4 i) (f1 j, f2 j, f3 j, f4 j))) (fun qs hqs => ?_) (fun J => ?_)
    · refine lv_istore (lv' := [(12, .int qs), (11, .int qc), (9, .long (m_side (f1 j, f2 j, f3 j, f4 j) (f3 i) (f4 i))), (7, .long (m_side (f1 j, f2 j, f3 j, f4 j) (f1 i) (f2 i))), (5, .long (m_side (f1 i, f2 i, f3 i, f4 i) (f3 j) (f4 j))), (3, .long (m_side (f1 i, f2 i, f3 i, f4 i) (f1 j) (f2 j))), (0, .ref y), (1, .int (nI i)), (2, .int (nI j))]) hx hb d_Md_areApart_349 hl (by decide) rfl (fun ls hl => ?_)
      refine rf_joinI 516 [] (fun b => rf_tf b (k_lies (f1 i, f2 i, f3 i, f4 i) (f1 j, f2 j, f3 j, f4 j))) (fun ql hql => ?_) (fun J => ?_)
      · refine lv_istore (lv' := [(13, .int ql), (12, .int qs), (11, .int qc), (9, .long (m_side (f1 j, f2 j, f3 j, f4 j) (f3 i) (f4 i))), (7, .long (m_side (f1 j, f2 j, f3 j, f4 j) (f1 i) (f2 i))), (5, .long (m_side (f1 i, f2 i, f3 i, f4 i) (f3 j) (f4 j))), (3, .long (m_side (f1 i, f2 i, f3 i, f4 i) (f1 j) (f2 j))), (0, .ref y), (1, .int (nI i)), (2, .int (nI j))]) hx hb d_Md_areApart_516 hl (by decide) rfl (fun ls hl => ?_)
        refine lv_iload hx hb d_Md_areApart_518 (lv_at hl 2 rfl) ?_
        refine lv_if_ne (tgt := 537) hx hb d_Md_areApart_520 (by decide) (fun c_9 => ?_) (fun c_9 => ?_)
        · refine lv_iconst (v := 0) hx hb d_Md_areApart_537 (by decide) ?_
          exact W.zret (v := 0) (ty := .boolean) hx hb hr rfl (fun t ht hW => ⟨_, rfl, (rf_F (fun h => (fun h => h (hqc.t c_9)) h.1)), ht⟩) (fun _ h => absurd h List.not_mem_nil) d_Md_areApart_538
        · refine lv_iload hx hb d_Md_areApart_523 (lv_at hl 1 rfl) ?_
          refine lv_if_ne (tgt := 537) hx hb d_Md_areApart_525 (by decide) (fun c_10 => ?_) (fun c_10 => ?_)
          · refine lv_iconst (v := 0) hx hb d_Md_areApart_537 (by decide) ?_
            exact W.zret (v := 0) (ty := .boolean) hx hb hr rfl (fun t ht hW => ⟨_, rfl, (rf_F (fun h => (fun h => h (hqs.t c_10)) h.2.1)), ht⟩) (fun _ h => absurd h List.not_mem_nil) d_Md_areApart_538
          · refine lv_iload hx hb d_Md_areApart_528 (lv_at hl 0 rfl) ?_
            refine lv_if_ne (tgt := 537) hx hb d_Md_areApart_530 (by decide) (fun c_11 => ?_) (fun c_11 => ?_)
            · refine lv_iconst (v := 0) hx hb d_Md_areApart_537 (by decide) ?_
              exact W.zret (v := 0) (ty := .boolean) hx hb hr rfl (fun t ht hW => ⟨_, rfl, (rf_F (fun h => (fun h => h (hql.t c_11)) h.2.2)), ht⟩) (fun _ h => absurd h List.not_mem_nil) d_Md_areApart_538
            · refine lv_iconst (v := 1) hx hb d_Md_areApart_533 (by decide) ?_
              refine lv_goto (tgt := 538) hx hb d_Md_areApart_534 (by decide) ?_
              exact W.zret (v := 1) (ty := .boolean) hx hb hr rfl (fun t ht hW => ⟨_, rfl, (rf_T ⟨(hqc.f c_9), (hqs.f c_10), (hql.f c_11)⟩), ht⟩) (fun _ h => absurd h List.not_mem_nil) d_Md_areApart_538
      · refine lv_aload_n hx hb d_Md_areApart_351 rfl (lv_at hl 6 rfl) ?_
        refine lv_iload_n hx hb d_Md_areApart_352 rfl (lv_at hl 7 rfl) ?_
        refine lv_aload_n hx hb d_Md_areApart_353 rfl (lv_at hl 6 rfl) ?_
        refine va_get (D := D) (ci := 4) (v := .ref t1) (C := "RayFieldModel") (T := F_Md) (N := 18) hx hb hts in_Md hown hK hP 0 rfl rfl 2 (by decide) (hts _ w_282) (fun _ h9 => h9) rfl d_Md_areApart_354 ?_
        refine lv_iload_n hx hb d_Md_areApart_357 rfl (lv_at hl 8 rfl) ?_
        refine rf_iald hx hb hK hP 2 1 rfl rfl hj (by decide) d_Md_areApart_358 ?_
        refine lv_aload_n hx hb d_Md_areApart_359 rfl (lv_at hl 6 rfl) ?_
        refine va_get (D := D) (ci := 4) (v := .ref t2) (C := "RayFieldModel") (T := F_Md) (N := 18) hx hb hts in_Md hown hK hP 0 rfl rfl 3 (by decide) (hts _ w_283) (fun _ h9 => h9) rfl d_Md_areApart_360 ?_
        refine lv_iload_n hx hb d_Md_areApart_363 rfl (lv_at hl 8 rfl) ?_
        refine rf_iald hx hb hK hP 3 2 rfl rfl hj (by decide) d_Md_areApart_364 ?_
        refine vp_callSi (va_Run.run (rf_runV (As := [.int (nI i), .int (f1 j), .int (f2 j)]) (rest := []) S0 ml_Md_41 (c_Md_isOn l D y t0 t1 t2 t3 t4 t5 c0 c1 c2 c3 c4 c5 ma ha ex ey dx dy ab be ri o1 o2 f0 f1 f2 f3 f4 f5 i hi (f1 j) (f2 j)) hE (va_recv hK hP (ci := 4) (q0 := 0) rfl rfl) hP ⟨rfl, rfl, Nat.le_of_ble_eq_true rfl, Nat.le_of_ble_eq_true rfl⟩ rfl hl.1 rfl (Nat.le_of_ble_eq_true rfl) d_Md_areApart_365 ⟨Nat.zero_le _, Nat.zero_le _⟩)) (fun r_12 h_13 => ?_)
        refine lv_if_eq (tgt := 391) hx hb d_Md_areApart_368 (by decide) (fun c_14 => ?_) (fun c_14 => ?_)
        · refine lv_aload_n hx hb d_Md_areApart_391 rfl (lv_at hl 6 rfl) ?_
          refine lv_iload_n hx hb d_Md_areApart_392 rfl (lv_at hl 7 rfl) ?_
          refine lv_aload_n hx hb d_Md_areApart_393 rfl (lv_at hl 6 rfl) ?_
          refine va_get (D := D) (ci := 4) (v := .ref t3) (C := "RayFieldModel") (T := F_Md) (N := 18) hx hb hts in_Md hown hK hP 0 rfl rfl 4 (by decide) (hts _ w_284) (fun _ h9 => h9) rfl d_Md_areApart_394 ?_
          refine lv_iload_n hx hb d_Md_areApart_397 rfl (lv_at hl 8 rfl) ?_
          refine rf_iald hx hb hK hP 4 3 rfl rfl hj (by decide) d_Md_areApart_398 ?_
          refine lv_aload_n hx hb d_Md_areApart_399 rfl (lv_at hl 6 rfl) ?_
          refine va_get (D := D) (ci := 4) (v := .ref t4) (C := "RayFieldModel") (T := F_Md) (N := 18) hx hb hts in_Md hown hK hP 0 rfl rfl 5 (by decide) (hts _ w_285) (fun _ h9 => h9) rfl d_Md_areApart_400 ?_
          refine lv_iload_n hx hb d_Md_areApart_403 rfl (lv_at hl 8 rfl) ?_
          refine rf_iald hx hb hK hP 5 4 rfl rfl hj (by decide) d_Md_areApart_404 ?_
          refine vp_callSi (va_Run.run (rf_runV (As := [.int (nI i), .int (f3 j), .int (f4 j)]) (rest := []) S0 ml_Md_41 (c_Md_isOn l D y t0 t1 t2 t3 t4 t5 c0 c1 c2 c3 c4 c5 ma ha ex ey dx dy ab be ri o1 o2 f0 f1 f2 f3 f4 f5 i hi (f3 j) (f4 j)) hE (va_recv hK hP (ci := 4) (q0 := 0) rfl rfl) hP ⟨rfl, rfl, Nat.le_of_ble_eq_true rfl, Nat.le_of_ble_eq_true rfl⟩ rfl hl.1 rfl (Nat.le_of_ble_eq_true rfl) d_Md_areApart_405 ⟨Nat.zero_le _, Nat.zero_le _⟩)) (fun r_15 h_16 => ?_)
          refine lv_if_eq (tgt := 431) hx hb d_Md_areApart_408 (by decide) (fun c_17 => ?_) (fun c_17 => ?_)
          · refine lv_aload_n hx hb d_Md_areApart_431 rfl (lv_at hl 6 rfl) ?_
            refine lv_iload_n hx hb d_Md_areApart_432 rfl (lv_at hl 8 rfl) ?_
            refine lv_aload_n hx hb d_Md_areApart_433 rfl (lv_at hl 6 rfl) ?_
            refine va_get (D := D) (ci := 4) (v := .ref t1) (C := "RayFieldModel") (T := F_Md) (N := 18) hx hb hts in_Md hown hK hP 0 rfl rfl 2 (by decide) (hts _ w_282) (fun _ h9 => h9) rfl d_Md_areApart_434 ?_
            refine lv_iload_n hx hb d_Md_areApart_437 rfl (lv_at hl 7 rfl) ?_
            refine rf_iald hx hb hK hP 2 1 rfl rfl hi (by decide) d_Md_areApart_438 ?_
            refine lv_aload_n hx hb d_Md_areApart_439 rfl (lv_at hl 6 rfl) ?_
            refine va_get (D := D) (ci := 4) (v := .ref t2) (C := "RayFieldModel") (T := F_Md) (N := 18) hx hb hts in_Md hown hK hP 0 rfl rfl 3 (by decide) (hts _ w_283) (fun _ h9 => h9) rfl d_Md_areApart_440 ?_
            refine lv_iload_n hx hb d_Md_areApart_443 rfl (lv_at hl 7 rfl) ?_
            refine rf_iald hx hb hK hP 3 2 rfl rfl hi (by decide) d_Md_areApart_444 ?_
            refine vp_callSi (va_Run.run (rf_runV (As := [.int (nI j), .int (f1 i), .int (f2 i)]) (rest := []) S0 ml_Md_41 (c_Md_isOn l D y t0 t1 t2 t3 t4 t5 c0 c1 c2 c3 c4 c5 ma ha ex ey dx dy ab be ri o1 o2 f0 f1 f2 f3 f4 f5 j hj (f1 i) (f2 i)) hE (va_recv hK hP (ci := 4) (q0 := 0) rfl rfl) hP ⟨rfl, rfl, Nat.le_of_ble_eq_true rfl, Nat.le_of_ble_eq_true rfl⟩ rfl hl.1 rfl (Nat.le_of_ble_eq_true rfl) d_Md_areApart_445 ⟨Nat.zero_le _, Nat.zero_le _⟩)) (fun r_18 h_19 => ?_)
            refine lv_if_eq (tgt := 471) hx hb d_Md_areApart_448 (by decide) (fun c_20 => ?_) (fun c_20 => ?_)
            · refine lv_aload_n hx hb d_Md_areApart_471 rfl (lv_at hl 6 rfl) ?_
              refine lv_iload_n hx hb d_Md_areApart_472 rfl (lv_at hl 8 rfl) ?_
              refine lv_aload_n hx hb d_Md_areApart_473 rfl (lv_at hl 6 rfl) ?_
              refine va_get (D := D) (ci := 4) (v := .ref t3) (C := "RayFieldModel") (T := F_Md) (N := 18) hx hb hts in_Md hown hK hP 0 rfl rfl 4 (by decide) (hts _ w_284) (fun _ h9 => h9) rfl d_Md_areApart_474 ?_
              refine lv_iload_n hx hb d_Md_areApart_477 rfl (lv_at hl 7 rfl) ?_
              refine rf_iald hx hb hK hP 4 3 rfl rfl hi (by decide) d_Md_areApart_478 ?_
              refine lv_aload_n hx hb d_Md_areApart_479 rfl (lv_at hl 6 rfl) ?_
              refine va_get (D := D) (ci := 4) (v := .ref t4) (C := "RayFieldModel") (T := F_Md) (N := 18) hx hb hts in_Md hown hK hP 0 rfl rfl 5 (by decide) (hts _ w_285) (fun _ h9 => h9) rfl d_Md_areApart_480 ?_
              refine lv_iload_n hx hb d_Md_areApart_483 rfl (lv_at hl 7 rfl) ?_
              refine rf_iald hx hb hK hP 5 4 rfl rfl hi (by decide) d_Md_areApart_484 ?_
              refine vp_callSi (va_Run.run (rf_runV (As := [.int (nI j), .int (f3 i), .int (f4 i)]) (rest := []) S0 ml_Md_41 (c_Md_isOn l D y t0 t1 t2 t3 t4 t5 c0 c1 c2 c3 c4 c5 ma ha ex ey dx dy ab be ri o1 o2 f0 f1 f2 f3 f4 f5 j hj (f3 i) (f4 i)) hE (va_recv hK hP (ci := 4) (q0 := 0) rfl rfl) hP ⟨rfl, rfl, Nat.le_of_ble_eq_true rfl, Nat.le_of_ble_eq_true rfl⟩ rfl hl.1 rfl (Nat.le_of_ble_eq_true rfl) d_Md_areApart_485 ⟨Nat.zero_le _, Nat.zero_le _⟩)) (fun r_21 h_22 => ?_)
              refine lv_if_eq (tgt := 515) hx hb d_Md_areApart_488 (by decide) (fun c_23 => ?_) (fun c_23 => ?_)
              · refine lv_iconst (v := 0) hx hb d_Md_areApart_515 (by decide) ?_
                exact J _ (rf_F (fun h => h.elim (fun h => (h_13.f c_14) h.1) (fun h => h.elim (fun h => (h_16.f c_17) h.1) (fun h => h.elim (fun h => (h_19.f c_20) h.1) (fun h => (h_22.f c_23) h.1)))))
              · refine lv_aload_n hx hb d_Md_areApart_491 rfl (lv_at hl 6 rfl) ?_
                refine lv_iload_n hx hb d_Md_areApart_492 rfl (lv_at hl 8 rfl) ?_
                refine lv_aload_n hx hb d_Md_areApart_493 rfl (lv_at hl 6 rfl) ?_
                refine va_get (D := D) (ci := 4) (v := .ref t3) (C := "RayFieldModel") (T := F_Md) (N := 18) hx hb hts in_Md hown hK hP 0 rfl rfl 4 (by decide) (hts _ w_284) (fun _ h9 => h9) rfl d_Md_areApart_494 ?_
                refine lv_iload_n hx hb d_Md_areApart_497 rfl (lv_at hl 7 rfl) ?_
                refine rf_iald hx hb hK hP 4 3 rfl rfl hi (by decide) d_Md_areApart_498 ?_
                refine lv_aload_n hx hb d_Md_areApart_499 rfl (lv_at hl 6 rfl) ?_
                refine va_get (D := D) (ci := 4) (v := .ref t4) (C := "RayFieldModel") (T := F_Md) (N := 18) hx hb hts in_Md hown hK hP 0 rfl rfl 5 (by decide) (hts _ w_285) (fun _ h9 => h9) rfl d_Md_areApart_500 ?_
                refine lv_iload_n hx hb d_Md_areApart_503 rfl (lv_at hl 7 rfl) ?_
                refine rf_iald hx hb hK hP 5 4 rfl rfl hi (by decide) d_Md_areApart_504 ?_
                refine vp_callSi (va_Run.run (rf_runV (As := [.int (nI j), .int (f3 i), .int (f4 i)]) (rest := []) S0 ml_Md_37 (c_Md_isEnd l D y t0 t1 t2 t3 t4 t5 c0 c1 c2 c3 c4 c5 ma ha ex ey dx dy ab be ri o1 o2 f0 f1 f2 f3 f4 f5 j hj (f3 i) (f4 i)) hE (va_recv hK hP (ci := 4) (q0 := 0) rfl rfl) hP ⟨rfl, rfl, Nat.le_of_ble_eq_true rfl, Nat.le_of_ble_eq_true rfl⟩ rfl hl.1 rfl (Nat.le_of_ble_eq_true rfl) d_Md_areApart_505 ⟨Nat.zero_le _, Nat.zero_le _⟩)) (fun r_24 h_25 => ?_)
                refine lv_if_ne (tgt := 515) hx hb d_Md_areApart_508 (by decide) (fun c_26 => ?_) (fun c_26 => ?_)
                · refine lv_iconst (v := 0) hx hb d_Md_areApart_515 (by decide) ?_
                  exact J _ (rf_F (fun h => h.elim (fun h => (h_13.f c_14) h.1) (fun h => h.elim (fun h => (h_16.f c_17) h.1) (fun h => h.elim (fun h => (h_19.f c_20) h.1) (fun h => (fun h => h (h_25.t c_26)) h.2)))))
                · refine lv_iconst (v := 1) hx hb d_Md_areApart_511 (by decide) ?_
                  refine lv_goto (tgt := 516) hx hb d_Md_areApart_512 (by decide) ?_
                  exact J _ (rf_T (Or.inr (Or.inr (Or.inr ⟨(h_22.t c_23), (h_25.f c_26)⟩))))
            · refine lv_aload_n hx hb d_Md_areApart_451 rfl (lv_at hl 6 rfl) ?_
              refine lv_iload_n hx hb d_Md_areApart_452 rfl (lv_at hl 8 rfl) ?_
              refine lv_aload_n hx hb d_Md_areApart_453 rfl (lv_at hl 6 rfl) ?_
              refine va_get (D := D) (ci := 4) (v := .ref t1) (C := "RayFieldModel") (T := F_Md) (N := 18) hx hb hts in_Md hown hK hP 0 rfl rfl 2 (by decide) (hts _ w_282) (fun _ h9 => h9) rfl d_Md_areApart_454 ?_
              refine lv_iload_n hx hb d_Md_areApart_457 rfl (lv_at hl 7 rfl) ?_
              refine rf_iald hx hb hK hP 2 1 rfl rfl hi (by decide) d_Md_areApart_458 ?_
              refine lv_aload_n hx hb d_Md_areApart_459 rfl (lv_at hl 6 rfl) ?_
              refine va_get (D := D) (ci := 4) (v := .ref t2) (C := "RayFieldModel") (T := F_Md) (N := 18) hx hb hts in_Md hown hK hP 0 rfl rfl 3 (by decide) (hts _ w_283) (fun _ h9 => h9) rfl d_Md_areApart_460 ?_
              refine lv_iload_n hx hb d_Md_areApart_463 rfl (lv_at hl 7 rfl) ?_
              refine rf_iald hx hb hK hP 3 2 rfl rfl hi (by decide) d_Md_areApart_464 ?_
              refine vp_callSi (va_Run.run (rf_runV (As := [.int (nI j), .int (f1 i), .int (f2 i)]) (rest := []) S0 ml_Md_37 (c_Md_isEnd l D y t0 t1 t2 t3 t4 t5 c0 c1 c2 c3 c4 c5 ma ha ex ey dx dy ab be ri o1 o2 f0 f1 f2 f3 f4 f5 j hj (f1 i) (f2 i)) hE (va_recv hK hP (ci := 4) (q0 := 0) rfl rfl) hP ⟨rfl, rfl, Nat.le_of_ble_eq_true rfl, Nat.le_of_ble_eq_true rfl⟩ rfl hl.1 rfl (Nat.le_of_ble_eq_true rfl) d_Md_areApart_465 ⟨Nat.zero_le _, Nat.zero_le _⟩)) (fun r_27 h_28 => ?_)
              refine lv_if_eq (tgt := 511) hx hb d_Md_areApart_468 (by decide) (fun c_29 => ?_) (fun c_29 => ?_)
              · refine lv_iconst (v := 1) hx hb d_Md_areApart_511 (by decide) ?_
                refine lv_goto (tgt := 516) hx hb d_Md_areApart_512 (by decide) ?_
                exact J _ (rf_T (Or.inr (Or.inr (Or.inl ⟨(h_19.t c_20), (h_28.f c_29)⟩))))
              · refine lv_aload_n hx hb d_Md_areApart_471 rfl (lv_at hl 6 rfl) ?_
                refine lv_iload_n hx hb d_Md_areApart_472 rfl (lv_at hl 8 rfl) ?_
                refine lv_aload_n hx hb d_Md_areApart_473 rfl (lv_at hl 6 rfl) ?_
                refine va_get (D := D) (ci := 4) (v := .ref t3) (C := "RayFieldModel") (T := F_Md) (N := 18) hx hb hts in_Md hown hK hP 0 rfl rfl 4 (by decide) (hts _ w_284) (fun _ h9 => h9) rfl d_Md_areApart_474 ?_
                refine lv_iload_n hx hb d_Md_areApart_477 rfl (lv_at hl 7 rfl) ?_
                refine rf_iald hx hb hK hP 4 3 rfl rfl hi (by decide) d_Md_areApart_478 ?_
                refine lv_aload_n hx hb d_Md_areApart_479 rfl (lv_at hl 6 rfl) ?_
                refine va_get (D := D) (ci := 4) (v := .ref t4) (C := "RayFieldModel") (T := F_Md) (N := 18) hx hb hts in_Md hown hK hP 0 rfl rfl 5 (by decide) (hts _ w_285) (fun _ h9 => h9) rfl d_Md_areApart_480 ?_
                refine lv_iload_n hx hb d_Md_areApart_483 rfl (lv_at hl 7 rfl) ?_
                refine rf_iald hx hb hK hP 5 4 rfl rfl hi (by decide) d_Md_areApart_484 ?_
                refine vp_callSi (va_Run.run (rf_runV (As := [.int (nI j), .int (f3 i), .int (f4 i)]) (rest := []) S0 ml_Md_41 (c_Md_isOn l D y t0 t1 t2 t3 t4 t5 c0 c1 c2 c3 c4 c5 ma ha ex ey dx dy ab be ri o1 o2 f0 f1 f2 f3 f4 f5 j hj (f3 i) (f4 i)) hE (va_recv hK hP (ci := 4) (q0 := 0) rfl rfl) hP ⟨rfl, rfl, Nat.le_of_ble_eq_true rfl, Nat.le_of_ble_eq_true rfl⟩ rfl hl.1 rfl (Nat.le_of_ble_eq_true rfl) d_Md_areApart_485 ⟨Nat.zero_le _, Nat.zero_le _⟩)) (fun r_30 h_31 => ?_)
                refine lv_if_eq (tgt := 515) hx hb d_Md_areApart_488 (by decide) (fun c_32 => ?_) (fun c_32 => ?_)
                · refine lv_iconst (v := 0) hx hb d_Md_areApart_515 (by decide) ?_
                  exact J _ (rf_F (fun h => h.elim (fun h => (h_13.f c_14) h.1) (fun h => h.elim (fun h => (h_16.f c_17) h.1) (fun h => h.elim (fun h => (fun h => h (h_28.t c_29)) h.2) (fun h => (h_31.f c_32) h.1)))))
                · refine lv_aload_n hx hb d_Md_areApart_491 rfl (lv_at hl 6 rfl) ?_
                  refine lv_iload_n hx hb d_Md_areApart_492 rfl (lv_at hl 8 rfl) ?_
                  refine lv_aload_n hx hb d_Md_areApart_493 rfl (lv_at hl 6 rfl) ?_
                  refine va_get (D := D) (ci := 4) (v := .ref t3) (C := "RayFieldModel") (T := F_Md) (N := 18) hx hb hts in_Md hown hK hP 0 rfl rfl 4 (by decide) (hts _ w_284) (fun _ h9 => h9) rfl d_Md_areApart_494 ?_
                  refine lv_iload_n hx hb d_Md_areApart_497 rfl (lv_at hl 7 rfl) ?_
                  refine rf_iald hx hb hK hP 4 3 rfl rfl hi (by decide) d_Md_areApart_498 ?_
                  refine lv_aload_n hx hb d_Md_areApart_499 rfl (lv_at hl 6 rfl) ?_
                  refine va_get (D := D) (ci := 4) (v := .ref t4) (C := "RayFieldModel") (T := F_Md) (N := 18) hx hb hts in_Md hown hK hP 0 rfl rfl 5 (by decide) (hts _ w_285) (fun _ h9 => h9) rfl d_Md_areApart_500 ?_
                  refine lv_iload_n hx hb d_Md_areApart_503 rfl (lv_at hl 7 rfl) ?_
                  refine rf_iald hx hb hK hP 5 4 rfl rfl hi (by decide) d_Md_areApart_504 ?_
                  refine vp_callSi (va_Run.run (rf_runV (As := [.int (nI j), .int (f3 i), .int (f4 i)]) (rest := []) S0 ml_Md_37 (c_Md_isEnd l D y t0 t1 t2 t3 t4 t5 c0 c1 c2 c3 c4 c5 ma ha ex ey dx dy ab be ri o1 o2 f0 f1 f2 f3 f4 f5 j hj (f3 i) (f4 i)) hE (va_recv hK hP (ci := 4) (q0 := 0) rfl rfl) hP ⟨rfl, rfl, Nat.le_of_ble_eq_true rfl, Nat.le_of_ble_eq_true rfl⟩ rfl hl.1 rfl (Nat.le_of_ble_eq_true rfl) d_Md_areApart_505 ⟨Nat.zero_le _, Nat.zero_le _⟩)) (fun r_33 h_34 => ?_)
                  refine lv_if_ne (tgt := 515) hx hb d_Md_areApart_508 (by decide) (fun c_35 => ?_) (fun c_35 => ?_)
                  · refine lv_iconst (v := 0) hx hb d_Md_areApart_515 (by decide) ?_
                    exact J _ (rf_F (fun h => h.elim (fun h => (h_13.f c_14) h.1) (fun h => h.elim (fun h => (h_16.f c_17) h.1) (fun h => h.elim (fun h => (fun h => h (h_28.t c_29)) h.2) (fun h => (fun h => h (h_34.t c_35)) h.2)))))
                  · refine lv_iconst (v := 1) hx hb d_Md_areApart_511 (by decide) ?_
                    refine lv_goto (tgt := 516) hx hb d_Md_areApart_512 (by decide) ?_
                    exact J _ (rf_T (Or.inr (Or.inr (Or.inr ⟨(h_31.t c_32), (h_34.f c_35)⟩))))
          · refine lv_aload_n hx hb d_Md_areApart_411 rfl (lv_at hl 6 rfl) ?_
            refine lv_iload_n hx hb d_Md_areApart_412 rfl (lv_at hl 7 rfl) ?_
            refine lv_aload_n hx hb d_Md_areApart_413 rfl (lv_at hl 6 rfl) ?_
            refine va_get (D := D) (ci := 4) (v := .ref t3) (C := "RayFieldModel") (T := F_Md) (N := 18) hx hb hts in_Md hown hK hP 0 rfl rfl 4 (by decide) (hts _ w_284) (fun _ h9 => h9) rfl d_Md_areApart_414 ?_
            refine lv_iload_n hx hb d_Md_areApart_417 rfl (lv_at hl 8 rfl) ?_
            refine rf_iald hx hb hK hP 4 3 rfl rfl hj (by decide) d_Md_areApart_418 ?_
            refine lv_aload_n hx hb d_Md_areApart_419 rfl (lv_at hl 6 rfl) ?_
            refine va_get (D := D) (ci := 4) (v := .ref t4) (C := "RayFieldModel") (T := F_Md) (N := 18) hx hb hts in_Md hown hK hP 0 rfl rfl 5 (by decide) (hts _ w_285) (fun _ h9 => h9) rfl d_Md_areApart_420 ?_
            refine lv_iload_n hx hb d_Md_areApart_423 rfl (lv_at hl 8 rfl) ?_
            refine rf_iald hx hb hK hP 5 4 rfl rfl hj (by decide) d_Md_areApart_424 ?_
            refine vp_callSi (va_Run.run (rf_runV (As := [.int (nI i), .int (f3 j), .int (f4 j)]) (rest := []) S0 ml_Md_37 (c_Md_isEnd l D y t0 t1 t2 t3 t4 t5 c0 c1 c2 c3 c4 c5 ma ha ex ey dx dy ab be ri o1 o2 f0 f1 f2 f3 f4 f5 i hi (f3 j) (f4 j)) hE (va_recv hK hP (ci := 4) (q0 := 0) rfl rfl) hP ⟨rfl, rfl, Nat.le_of_ble_eq_true rfl, Nat.le_of_ble_eq_true rfl⟩ rfl hl.1 rfl (Nat.le_of_ble_eq_true rfl) d_Md_areApart_425 ⟨Nat.zero_le _, Nat.zero_le _⟩)) (fun r_36 h_37 => ?_)
            refine lv_if_eq (tgt := 511) hx hb d_Md_areApart_428 (by decide) (fun c_38 => ?_) (fun c_38 => ?_)
            · refine lv_iconst (v := 1) hx hb d_Md_areApart_511 (by decide) ?_
              refine lv_goto (tgt := 516) hx hb d_Md_areApart_512 (by decide) ?_
              exact J _ (rf_T (Or.inr (Or.inl ⟨(h_16.t c_17), (h_37.f c_38)⟩)))
            · refine lv_aload_n hx hb d_Md_areApart_431 rfl (lv_at hl 6 rfl) ?_
              refine lv_iload_n hx hb d_Md_areApart_432 rfl (lv_at hl 8 rfl) ?_
              refine lv_aload_n hx hb d_Md_areApart_433 rfl (lv_at hl 6 rfl) ?_
              refine va_get (D := D) (ci := 4) (v := .ref t1) (C := "RayFieldModel") (T := F_Md) (N := 18) hx hb hts in_Md hown hK hP 0 rfl rfl 2 (by decide) (hts _ w_282) (fun _ h9 => h9) rfl d_Md_areApart_434 ?_
              refine lv_iload_n hx hb d_Md_areApart_437 rfl (lv_at hl 7 rfl) ?_
              refine rf_iald hx hb hK hP 2 1 rfl rfl hi (by decide) d_Md_areApart_438 ?_
              refine lv_aload_n hx hb d_Md_areApart_439 rfl (lv_at hl 6 rfl) ?_
              refine va_get (D := D) (ci := 4) (v := .ref t2) (C := "RayFieldModel") (T := F_Md) (N := 18) hx hb hts in_Md hown hK hP 0 rfl rfl 3 (by decide) (hts _ w_283) (fun _ h9 => h9) rfl d_Md_areApart_440 ?_
              refine lv_iload_n hx hb d_Md_areApart_443 rfl (lv_at hl 7 rfl) ?_
              refine rf_iald hx hb hK hP 3 2 rfl rfl hi (by decide) d_Md_areApart_444 ?_
              refine vp_callSi (va_Run.run (rf_runV (As := [.int (nI j), .int (f1 i), .int (f2 i)]) (rest := []) S0 ml_Md_41 (c_Md_isOn l D y t0 t1 t2 t3 t4 t5 c0 c1 c2 c3 c4 c5 ma ha ex ey dx dy ab be ri o1 o2 f0 f1 f2 f3 f4 f5 j hj (f1 i) (f2 i)) hE (va_recv hK hP (ci := 4) (q0 := 0) rfl rfl) hP ⟨rfl, rfl, Nat.le_of_ble_eq_true rfl, Nat.le_of_ble_eq_true rfl⟩ rfl hl.1 rfl (Nat.le_of_ble_eq_true rfl) d_Md_areApart_445 ⟨Nat.zero_le _, Nat.zero_le _⟩)) (fun r_39 h_40 => ?_)
              refine lv_if_eq (tgt := 471) hx hb d_Md_areApart_448 (by decide) (fun c_41 => ?_) (fun c_41 => ?_)
              · refine lv_aload_n hx hb d_Md_areApart_471 rfl (lv_at hl 6 rfl) ?_
                refine lv_iload_n hx hb d_Md_areApart_472 rfl (lv_at hl 8 rfl) ?_
                refine lv_aload_n hx hb d_Md_areApart_473 rfl (lv_at hl 6 rfl) ?_
                refine va_get (D := D) (ci := 4) (v := .ref t3) (C := "RayFieldModel") (T := F_Md) (N := 18) hx hb hts in_Md hown hK hP 0 rfl rfl 4 (by decide) (hts _ w_284) (fun _ h9 => h9) rfl d_Md_areApart_474 ?_
                refine lv_iload_n hx hb d_Md_areApart_477 rfl (lv_at hl 7 rfl) ?_
                refine rf_iald hx hb hK hP 4 3 rfl rfl hi (by decide) d_Md_areApart_478 ?_
                refine lv_aload_n hx hb d_Md_areApart_479 rfl (lv_at hl 6 rfl) ?_
                refine va_get (D := D) (ci := 4) (v := .ref t4) (C := "RayFieldModel") (T := F_Md) (N := 18) hx hb hts in_Md hown hK hP 0 rfl rfl 5 (by decide) (hts _ w_285) (fun _ h9 => h9) rfl d_Md_areApart_480 ?_
                refine lv_iload_n hx hb d_Md_areApart_483 rfl (lv_at hl 7 rfl) ?_
                refine rf_iald hx hb hK hP 5 4 rfl rfl hi (by decide) d_Md_areApart_484 ?_
                refine vp_callSi (va_Run.run (rf_runV (As := [.int (nI j), .int (f3 i), .int (f4 i)]) (rest := []) S0 ml_Md_41 (c_Md_isOn l D y t0 t1 t2 t3 t4 t5 c0 c1 c2 c3 c4 c5 ma ha ex ey dx dy ab be ri o1 o2 f0 f1 f2 f3 f4 f5 j hj (f3 i) (f4 i)) hE (va_recv hK hP (ci := 4) (q0 := 0) rfl rfl) hP ⟨rfl, rfl, Nat.le_of_ble_eq_true rfl, Nat.le_of_ble_eq_true rfl⟩ rfl hl.1 rfl (Nat.le_of_ble_eq_true rfl) d_Md_areApart_485 ⟨Nat.zero_le _, Nat.zero_le _⟩)) (fun r_42 h_43 => ?_)
                refine lv_if_eq (tgt := 515) hx hb d_Md_areApart_488 (by decide) (fun c_44 => ?_) (fun c_44 => ?_)
                · refine lv_iconst (v := 0) hx hb d_Md_areApart_515 (by decide) ?_
                  exact J _ (rf_F (fun h => h.elim (fun h => (h_13.f c_14) h.1) (fun h => h.elim (fun h => (fun h => h (h_37.t c_38)) h.2) (fun h => h.elim (fun h => (h_40.f c_41) h.1) (fun h => (h_43.f c_44) h.1)))))
                · refine lv_aload_n hx hb d_Md_areApart_491 rfl (lv_at hl 6 rfl) ?_
                  refine lv_iload_n hx hb d_Md_areApart_492 rfl (lv_at hl 8 rfl) ?_
                  refine lv_aload_n hx hb d_Md_areApart_493 rfl (lv_at hl 6 rfl) ?_
                  refine va_get (D := D) (ci := 4) (v := .ref t3) (C := "RayFieldModel") (T := F_Md) (N := 18) hx hb hts in_Md hown hK hP 0 rfl rfl 4 (by decide) (hts _ w_284) (fun _ h9 => h9) rfl d_Md_areApart_494 ?_
                  refine lv_iload_n hx hb d_Md_areApart_497 rfl (lv_at hl 7 rfl) ?_
                  refine rf_iald hx hb hK hP 4 3 rfl rfl hi (by decide) d_Md_areApart_498 ?_
                  refine lv_aload_n hx hb d_Md_areApart_499 rfl (lv_at hl 6 rfl) ?_
                  refine va_get (D := D) (ci := 4) (v := .ref t4) (C := "RayFieldModel") (T := F_Md) (N := 18) hx hb hts in_Md hown hK hP 0 rfl rfl 5 (by decide) (hts _ w_285) (fun _ h9 => h9) rfl d_Md_areApart_500 ?_
                  refine lv_iload_n hx hb d_Md_areApart_503 rfl (lv_at hl 7 rfl) ?_
                  refine rf_iald hx hb hK hP 5 4 rfl rfl hi (by decide) d_Md_areApart_504 ?_
                  refine vp_callSi (va_Run.run (rf_runV (As := [.int (nI j), .int (f3 i), .int (f4 i)]) (rest := []) S0 ml_Md_37 (c_Md_isEnd l D y t0 t1 t2 t3 t4 t5 c0 c1 c2 c3 c4 c5 ma ha ex ey dx dy ab be ri o1 o2 f0 f1 f2 f3 f4 f5 j hj (f3 i) (f4 i)) hE (va_recv hK hP (ci := 4) (q0 := 0) rfl rfl) hP ⟨rfl, rfl, Nat.le_of_ble_eq_true rfl, Nat.le_of_ble_eq_true rfl⟩ rfl hl.1 rfl (Nat.le_of_ble_eq_true rfl) d_Md_areApart_505 ⟨Nat.zero_le _, Nat.zero_le _⟩)) (fun r_45 h_46 => ?_)
                  refine lv_if_ne (tgt := 515) hx hb d_Md_areApart_508 (by decide) (fun c_47 => ?_) (fun c_47 => ?_)
                  · refine lv_iconst (v := 0) hx hb d_Md_areApart_515 (by decide) ?_
                    exact J _ (rf_F (fun h => h.elim (fun h => (h_13.f c_14) h.1) (fun h => h.elim (fun h => (fun h => h (h_37.t c_38)) h.2) (fun h => h.elim (fun h => (h_40.f c_41) h.1) (fun h => (fun h => h (h_46.t c_47)) h.2)))))
                  · refine lv_iconst (v := 1) hx hb d_Md_areApart_511 (by decide) ?_
                    refine lv_goto (tgt := 516) hx hb d_Md_areApart_512 (by decide) ?_
                    exact J _ (rf_T (Or.inr (Or.inr (Or.inr ⟨(h_43.t c_44), (h_46.f c_47)⟩))))
              · refine lv_aload_n hx hb d_Md_areApart_451 rfl (lv_at hl 6 rfl) ?_
                refine lv_iload_n hx hb d_Md_areApart_452 rfl (lv_at hl 8 rfl) ?_
                refine lv_aload_n hx hb d_Md_areApart_453 rfl (lv_at hl 6 rfl) ?_
                refine va_get (D := D) (ci := 4) (v := .ref t1) (C := "RayFieldModel") (T := F_Md) (N := 18) hx hb hts in_Md hown hK hP 0 rfl rfl 2 (by decide) (hts _ w_282) (fun _ h9 => h9) rfl d_Md_areApart_454 ?_
                refine lv_iload_n hx hb d_Md_areApart_457 rfl (lv_at hl 7 rfl) ?_
                refine rf_iald hx hb hK hP 2 1 rfl rfl hi (by decide) d_Md_areApart_458 ?_
                refine lv_aload_n hx hb d_Md_areApart_459 rfl (lv_at hl 6 rfl) ?_
                refine va_get (D := D) (ci := 4) (v := .ref t2) (C := "RayFieldModel") (T := F_Md) (N := 18) hx hb hts in_Md hown hK hP 0 rfl rfl 3 (by decide) (hts _ w_283) (fun _ h9 => h9) rfl d_Md_areApart_460 ?_
                refine lv_iload_n hx hb d_Md_areApart_463 rfl (lv_at hl 7 rfl) ?_
                refine rf_iald hx hb hK hP 3 2 rfl rfl hi (by decide) d_Md_areApart_464 ?_
                refine vp_callSi (va_Run.run (rf_runV (As := [.int (nI j), .int (f1 i), .int (f2 i)]) (rest := []) S0 ml_Md_37 (c_Md_isEnd l D y t0 t1 t2 t3 t4 t5 c0 c1 c2 c3 c4 c5 ma ha ex ey dx dy ab be ri o1 o2 f0 f1 f2 f3 f4 f5 j hj (f1 i) (f2 i)) hE (va_recv hK hP (ci := 4) (q0 := 0) rfl rfl) hP ⟨rfl, rfl, Nat.le_of_ble_eq_true rfl, Nat.le_of_ble_eq_true rfl⟩ rfl hl.1 rfl (Nat.le_of_ble_eq_true rfl) d_Md_areApart_465 ⟨Nat.zero_le _, Nat.zero_le _⟩)) (fun r_48 h_49 => ?_)
                refine lv_if_eq (tgt := 511) hx hb d_Md_areApart_468 (by decide) (fun c_50 => ?_) (fun c_50 => ?_)
                · refine lv_iconst (v := 1) hx hb d_Md_areApart_511 (by decide) ?_
                  refine lv_goto (tgt := 516) hx hb d_Md_areApart_512 (by decide) ?_
                  exact J _ (rf_T (Or.inr (Or.inr (Or.inl ⟨(h_40.t c_41), (h_49.f c_50)⟩))))
                · refine lv_aload_n hx hb d_Md_areApart_471 rfl (lv_at hl 6 rfl) ?_
                  refine lv_iload_n hx hb d_Md_areApart_472 rfl (lv_at hl 8 rfl) ?_
                  refine lv_aload_n hx hb d_Md_areApart_473 rfl (lv_at hl 6 rfl) ?_
                  refine va_get (D := D) (ci := 4) (v := .ref t3) (C := "RayFieldModel") (T := F_Md) (N := 18) hx hb hts in_Md hown hK hP 0 rfl rfl 4 (by decide) (hts _ w_284) (fun _ h9 => h9) rfl d_Md_areApart_474 ?_
                  refine lv_iload_n hx hb d_Md_areApart_477 rfl (lv_at hl 7 rfl) ?_
                  refine rf_iald hx hb hK hP 4 3 rfl rfl hi (by decide) d_Md_areApart_478 ?_
                  refine lv_aload_n hx hb d_Md_areApart_479 rfl (lv_at hl 6 rfl) ?_
                  refine va_get (D := D) (ci := 4) (v := .ref t4) (C := "RayFieldModel") (T := F_Md) (N := 18) hx hb hts in_Md hown hK hP 0 rfl rfl 5 (by decide) (hts _ w_285) (fun _ h9 => h9) rfl d_Md_areApart_480 ?_
                  refine lv_iload_n hx hb d_Md_areApart_483 rfl (lv_at hl 7 rfl) ?_
                  refine rf_iald hx hb hK hP 5 4 rfl rfl hi (by decide) d_Md_areApart_484 ?_
                  refine vp_callSi (va_Run.run (rf_runV (As := [.int (nI j), .int (f3 i), .int (f4 i)]) (rest := []) S0 ml_Md_41 (c_Md_isOn l D y t0 t1 t2 t3 t4 t5 c0 c1 c2 c3 c4 c5 ma ha ex ey dx dy ab be ri o1 o2 f0 f1 f2 f3 f4 f5 j hj (f3 i) (f4 i)) hE (va_recv hK hP (ci := 4) (q0 := 0) rfl rfl) hP ⟨rfl, rfl, Nat.le_of_ble_eq_true rfl, Nat.le_of_ble_eq_true rfl⟩ rfl hl.1 rfl (Nat.le_of_ble_eq_true rfl) d_Md_areApart_485 ⟨Nat.zero_le _, Nat.zero_le _⟩)) (fun r_51 h_52 => ?_)
                  refine lv_if_eq (tgt := 515) hx hb d_Md_areApart_488 (by decide) (fun c_53 => ?_) (fun c_53 => ?_)
                  · refine lv_iconst (v := 0) hx hb d_Md_areApart_515 (by decide) ?_
                    exact J _ (rf_F (fun h => h.elim (fun h => (h_13.f c_14) h.1) (fun h => h.elim (fun h => (fun h => h (h_37.t c_38)) h.2) (fun h => h.elim (fun h => (fun h => h (h_49.t c_50)) h.2) (fun h => (h_52.f c_53) h.1)))))
                  · refine lv_aload_n hx hb d_Md_areApart_491 rfl (lv_at hl 6 rfl) ?_
                    refine lv_iload_n hx hb d_Md_areApart_492 rfl (lv_at hl 8 rfl) ?_
                    refine lv_aload_n hx hb d_Md_areApart_493 rfl (lv_at hl 6 rfl) ?_
                    refine va_get (D := D) (ci := 4) (v := .ref t3) (C := "RayFieldModel") (T := F_Md) (N := 18) hx hb hts in_Md hown hK hP 0 rfl rfl 4 (by decide) (hts _ w_284) (fun _ h9 => h9) rfl d_Md_areApart_494 ?_
                    refine lv_iload_n hx hb d_Md_areApart_497 rfl (lv_at hl 7 rfl) ?_
                    refine rf_iald hx hb hK hP 4 3 rfl rfl hi (by decide) d_Md_areApart_498 ?_
                    refine lv_aload_n hx hb d_Md_areApart_499 rfl (lv_at hl 6 rfl) ?_
                    refine va_get (D := D) (ci := 4) (v := .ref t4) (C := "RayFieldModel") (T := F_Md) (N := 18) hx hb hts in_Md hown hK hP 0 rfl rfl 5 (by decide) (hts _ w_285) (fun _ h9 => h9) rfl d_Md_areApart_500 ?_
                    refine lv_iload_n hx hb d_Md_areApart_503 rfl (lv_at hl 7 rfl) ?_
                    refine rf_iald hx hb hK hP 5 4 rfl rfl hi (by decide) d_Md_areApart_504 ?_
                    refine vp_callSi (va_Run.run (rf_runV (As := [.int (nI j), .int (f3 i), .int (f4 i)]) (rest := []) S0 ml_Md_37 (c_Md_isEnd l D y t0 t1 t2 t3 t4 t5 c0 c1 c2 c3 c4 c5 ma ha ex ey dx dy ab be ri o1 o2 f0 f1 f2 f3 f4 f5 j hj (f3 i) (f4 i)) hE (va_recv hK hP (ci := 4) (q0 := 0) rfl rfl) hP ⟨rfl, rfl, Nat.le_of_ble_eq_true rfl, Nat.le_of_ble_eq_true rfl⟩ rfl hl.1 rfl (Nat.le_of_ble_eq_true rfl) d_Md_areApart_505 ⟨Nat.zero_le _, Nat.zero_le _⟩)) (fun r_54 h_55 => ?_)
                    refine lv_if_ne (tgt := 515) hx hb d_Md_areApart_508 (by decide) (fun c_56 => ?_) (fun c_56 => ?_)
                    · refine lv_iconst (v := 0) hx hb d_Md_areApart_515 (by decide) ?_
                      exact J _ (rf_F (fun h => h.elim (fun h => (h_13.f c_14) h.1) (fun h => h.elim (fun h => (fun h => h (h_37.t c_38)) h.2) (fun h => h.elim (fun h => (fun h => h (h_49.t c_50)) h.2) (fun h => (fun h => h (h_55.t c_56)) h.2)))))
                    · refine lv_iconst (v := 1) hx hb d_Md_areApart_511 (by decide) ?_
                      refine lv_goto (tgt := 516) hx hb d_Md_areApart_512 (by decide) ?_
                      exact J _ (rf_T (Or.inr (Or.inr (Or.inr ⟨(h_52.t c_53), (h_55.f c_56)⟩))))
        · refine lv_aload_n hx hb d_Md_areApart_371 rfl (lv_at hl 6 rfl) ?_
          refine lv_iload_n hx hb d_Md_areApart_372 rfl (lv_at hl 7 rfl) ?_
          refine lv_aload_n hx hb d_Md_areApart_373 rfl (lv_at hl 6 rfl) ?_
          refine va_get (D := D) (ci := 4) (v := .ref t1) (C := "RayFieldModel") (T := F_Md) (N := 18) hx hb hts in_Md hown hK hP 0 rfl rfl 2 (by decide) (hts _ w_282) (fun _ h9 => h9) rfl d_Md_areApart_374 ?_
          refine lv_iload_n hx hb d_Md_areApart_377 rfl (lv_at hl 8 rfl) ?_
          refine rf_iald hx hb hK hP 2 1 rfl rfl hj (by decide) d_Md_areApart_378 ?_
          refine lv_aload_n hx hb d_Md_areApart_379 rfl (lv_at hl 6 rfl) ?_
          refine va_get (D := D) (ci := 4) (v := .ref t2) (C := "RayFieldModel") (T := F_Md) (N := 18) hx hb hts in_Md hown hK hP 0 rfl rfl 3 (by decide) (hts _ w_283) (fun _ h9 => h9) rfl d_Md_areApart_380 ?_
          refine lv_iload_n hx hb d_Md_areApart_383 rfl (lv_at hl 8 rfl) ?_
          refine rf_iald hx hb hK hP 3 2 rfl rfl hj (by decide) d_Md_areApart_384 ?_
          refine vp_callSi (va_Run.run (rf_runV (As := [.int (nI i), .int (f1 j), .int (f2 j)]) (rest := []) S0 ml_Md_37 (c_Md_isEnd l D y t0 t1 t2 t3 t4 t5 c0 c1 c2 c3 c4 c5 ma ha ex ey dx dy ab be ri o1 o2 f0 f1 f2 f3 f4 f5 i hi (f1 j) (f2 j)) hE (va_recv hK hP (ci := 4) (q0 := 0) rfl rfl) hP ⟨rfl, rfl, Nat.le_of_ble_eq_true rfl, Nat.le_of_ble_eq_true rfl⟩ rfl hl.1 rfl (Nat.le_of_ble_eq_true rfl) d_Md_areApart_385 ⟨Nat.zero_le _, Nat.zero_le _⟩)) (fun r_57 h_58 => ?_)
          refine lv_if_eq (tgt := 511) hx hb d_Md_areApart_388 (by decide) (fun c_59 => ?_) (fun c_59 => ?_)
          · refine lv_iconst (v := 1) hx hb d_Md_areApart_511 (by decide) ?_
            refine lv_goto (tgt := 516) hx hb d_Md_areApart_512 (by decide) ?_
            exact J _ (rf_T (Or.inl ⟨(h_13.t c_14), (h_58.f c_59)⟩))
          · refine lv_aload_n hx hb d_Md_areApart_391 rfl (lv_at hl 6 rfl) ?_
            refine lv_iload_n hx hb d_Md_areApart_392 rfl (lv_at hl 7 rfl) ?_
            refine lv_aload_n hx hb d_Md_areApart_393 rfl (lv_at hl 6 rfl) ?_
            refine va_get (D := D) (ci := 4) (v := .ref t3) (C := "RayFieldModel") (T := F_Md) (N := 18) hx hb hts in_Md hown hK hP 0 rfl rfl 4 (by decide) (hts _ w_284) (fun _ h9 => h9) rfl d_Md_areApart_394 ?_
            refine lv_iload_n hx hb d_Md_areApart_397 rfl (lv_at hl 8 rfl) ?_
            refine rf_iald hx hb hK hP 4 3 rfl rfl hj (by decide) d_Md_areApart_398 ?_
            refine lv_aload_n hx hb d_Md_areApart_399 rfl (lv_at hl 6 rfl) ?_
            refine va_get (D := D) (ci := 4) (v := .ref t4) (C := "RayFieldModel") (T := F_Md) (N := 18) hx hb hts in_Md hown hK hP 0 rfl rfl 5 (by decide) (hts _ w_285) (fun _ h9 => h9) rfl d_Md_areApart_400 ?_
            refine lv_iload_n hx hb d_Md_areApart_403 rfl (lv_at hl 8 rfl) ?_
            refine rf_iald hx hb hK hP 5 4 rfl rfl hj (by decide) d_Md_areApart_404 ?_
            refine vp_callSi (va_Run.run (rf_runV (As := [.int (nI i), .int (f3 j), .int (f4 j)]) (rest := []) S0 ml_Md_41 (c_Md_isOn l D y t0 t1 t2 t3 t4 t5 c0 c1 c2 c3 c4 c5 ma ha ex ey dx dy ab be ri o1 o2 f0 f1 f2 f3 f4 f5 i hi (f3 j) (f4 j)) hE (va_recv hK hP (ci := 4) (q0 := 0) rfl rfl) hP ⟨rfl, rfl, Nat.le_of_ble_eq_true rfl, Nat.le_of_ble_eq_true rfl⟩ rfl hl.1 rfl (Nat.le_of_ble_eq_true rfl) d_Md_areApart_405 ⟨Nat.zero_le _, Nat.zero_le _⟩)) (fun r_60 h_61 => ?_)
            refine lv_if_eq (tgt := 431) hx hb d_Md_areApart_408 (by decide) (fun c_62 => ?_) (fun c_62 => ?_)
            · refine lv_aload_n hx hb d_Md_areApart_431 rfl (lv_at hl 6 rfl) ?_
              refine lv_iload_n hx hb d_Md_areApart_432 rfl (lv_at hl 8 rfl) ?_
              refine lv_aload_n hx hb d_Md_areApart_433 rfl (lv_at hl 6 rfl) ?_
              refine va_get (D := D) (ci := 4) (v := .ref t1) (C := "RayFieldModel") (T := F_Md) (N := 18) hx hb hts in_Md hown hK hP 0 rfl rfl 2 (by decide) (hts _ w_282) (fun _ h9 => h9) rfl d_Md_areApart_434 ?_
              refine lv_iload_n hx hb d_Md_areApart_437 rfl (lv_at hl 7 rfl) ?_
              refine rf_iald hx hb hK hP 2 1 rfl rfl hi (by decide) d_Md_areApart_438 ?_
              refine lv_aload_n hx hb d_Md_areApart_439 rfl (lv_at hl 6 rfl) ?_
              refine va_get (D := D) (ci := 4) (v := .ref t2) (C := "RayFieldModel") (T := F_Md) (N := 18) hx hb hts in_Md hown hK hP 0 rfl rfl 3 (by decide) (hts _ w_283) (fun _ h9 => h9) rfl d_Md_areApart_440 ?_
              refine lv_iload_n hx hb d_Md_areApart_443 rfl (lv_at hl 7 rfl) ?_
              refine rf_iald hx hb hK hP 3 2 rfl rfl hi (by decide) d_Md_areApart_444 ?_
              refine vp_callSi (va_Run.run (rf_runV (As := [.int (nI j), .int (f1 i), .int (f2 i)]) (rest := []) S0 ml_Md_41 (c_Md_isOn l D y t0 t1 t2 t3 t4 t5 c0 c1 c2 c3 c4 c5 ma ha ex ey dx dy ab be ri o1 o2 f0 f1 f2 f3 f4 f5 j hj (f1 i) (f2 i)) hE (va_recv hK hP (ci := 4) (q0 := 0) rfl rfl) hP ⟨rfl, rfl, Nat.le_of_ble_eq_true rfl, Nat.le_of_ble_eq_true rfl⟩ rfl hl.1 rfl (Nat.le_of_ble_eq_true rfl) d_Md_areApart_445 ⟨Nat.zero_le _, Nat.zero_le _⟩)) (fun r_63 h_64 => ?_)
              refine lv_if_eq (tgt := 471) hx hb d_Md_areApart_448 (by decide) (fun c_65 => ?_) (fun c_65 => ?_)
              · refine lv_aload_n hx hb d_Md_areApart_471 rfl (lv_at hl 6 rfl) ?_
                refine lv_iload_n hx hb d_Md_areApart_472 rfl (lv_at hl 8 rfl) ?_
                refine lv_aload_n hx hb d_Md_areApart_473 rfl (lv_at hl 6 rfl) ?_
                refine va_get (D := D) (ci := 4) (v := .ref t3) (C := "RayFieldModel") (T := F_Md) (N := 18) hx hb hts in_Md hown hK hP 0 rfl rfl 4 (by decide) (hts _ w_284) (fun _ h9 => h9) rfl d_Md_areApart_474 ?_
                refine lv_iload_n hx hb d_Md_areApart_477 rfl (lv_at hl 7 rfl) ?_
                refine rf_iald hx hb hK hP 4 3 rfl rfl hi (by decide) d_Md_areApart_478 ?_
                refine lv_aload_n hx hb d_Md_areApart_479 rfl (lv_at hl 6 rfl) ?_
                refine va_get (D := D) (ci := 4) (v := .ref t4) (C := "RayFieldModel") (T := F_Md) (N := 18) hx hb hts in_Md hown hK hP 0 rfl rfl 5 (by decide) (hts _ w_285) (fun _ h9 => h9) rfl d_Md_areApart_480 ?_
                refine lv_iload_n hx hb d_Md_areApart_483 rfl (lv_at hl 7 rfl) ?_
                refine rf_iald hx hb hK hP 5 4 rfl rfl hi (by decide) d_Md_areApart_484 ?_
                refine vp_callSi (va_Run.run (rf_runV (As := [.int (nI j), .int (f3 i), .int (f4 i)]) (rest := []) S0 ml_Md_41 (c_Md_isOn l D y t0 t1 t2 t3 t4 t5 c0 c1 c2 c3 c4 c5 ma ha ex ey dx dy ab be ri o1 o2 f0 f1 f2 f3 f4 f5 j hj (f3 i) (f4 i)) hE (va_recv hK hP (ci := 4) (q0 := 0) rfl rfl) hP ⟨rfl, rfl, Nat.le_of_ble_eq_true rfl, Nat.le_of_ble_eq_true rfl⟩ rfl hl.1 rfl (Nat.le_of_ble_eq_true rfl) d_Md_areApart_485 ⟨Nat.zero_le _, Nat.zero_le _⟩)) (fun r_66 h_67 => ?_)
                refine lv_if_eq (tgt := 515) hx hb d_Md_areApart_488 (by decide) (fun c_68 => ?_) (fun c_68 => ?_)
                · refine lv_iconst (v := 0) hx hb d_Md_areApart_515 (by decide) ?_
                  exact J _ (rf_F (fun h => h.elim (fun h => (fun h => h (h_58.t c_59)) h.2) (fun h => h.elim (fun h => (h_61.f c_62) h.1) (fun h => h.elim (fun h => (h_64.f c_65) h.1) (fun h => (h_67.f c_68) h.1)))))
                · refine lv_aload_n hx hb d_Md_areApart_491 rfl (lv_at hl 6 rfl) ?_
                  refine lv_iload_n hx hb d_Md_areApart_492 rfl (lv_at hl 8 rfl) ?_
                  refine lv_aload_n hx hb d_Md_areApart_493 rfl (lv_at hl 6 rfl) ?_
                  refine va_get (D := D) (ci := 4) (v := .ref t3) (C := "RayFieldModel") (T := F_Md) (N := 18) hx hb hts in_Md hown hK hP 0 rfl rfl 4 (by decide) (hts _ w_284) (fun _ h9 => h9) rfl d_Md_areApart_494 ?_
                  refine lv_iload_n hx hb d_Md_areApart_497 rfl (lv_at hl 7 rfl) ?_
                  refine rf_iald hx hb hK hP 4 3 rfl rfl hi (by decide) d_Md_areApart_498 ?_
                  refine lv_aload_n hx hb d_Md_areApart_499 rfl (lv_at hl 6 rfl) ?_
                  refine va_get (D := D) (ci := 4) (v := .ref t4) (C := "RayFieldModel") (T := F_Md) (N := 18) hx hb hts in_Md hown hK hP 0 rfl rfl 5 (by decide) (hts _ w_285) (fun _ h9 => h9) rfl d_Md_areApart_500 ?_
                  refine lv_iload_n hx hb d_Md_areApart_503 rfl (lv_at hl 7 rfl) ?_
                  refine rf_iald hx hb hK hP 5 4 rfl rfl hi (by decide) d_Md_areApart_504 ?_
                  refine vp_callSi (va_Run.run (rf_runV (As := [.int (nI j), .int (f3 i), .int (f4 i)]) (rest := []) S0 ml_Md_37 (c_Md_isEnd l D y t0 t1 t2 t3 t4 t5 c0 c1 c2 c3 c4 c5 ma ha ex ey dx dy ab be ri o1 o2 f0 f1 f2 f3 f4 f5 j hj (f3 i) (f4 i)) hE (va_recv hK hP (ci := 4) (q0 := 0) rfl rfl) hP ⟨rfl, rfl, Nat.le_of_ble_eq_true rfl, Nat.le_of_ble_eq_true rfl⟩ rfl hl.1 rfl (Nat.le_of_ble_eq_true rfl) d_Md_areApart_505 ⟨Nat.zero_le _, Nat.zero_le _⟩)) (fun r_69 h_70 => ?_)
                  refine lv_if_ne (tgt := 515) hx hb d_Md_areApart_508 (by decide) (fun c_71 => ?_) (fun c_71 => ?_)
                  · refine lv_iconst (v := 0) hx hb d_Md_areApart_515 (by decide) ?_
                    exact J _ (rf_F (fun h => h.elim (fun h => (fun h => h (h_58.t c_59)) h.2) (fun h => h.elim (fun h => (h_61.f c_62) h.1) (fun h => h.elim (fun h => (h_64.f c_65) h.1) (fun h => (fun h => h (h_70.t c_71)) h.2)))))
                  · refine lv_iconst (v := 1) hx hb d_Md_areApart_511 (by decide) ?_
                    refine lv_goto (tgt := 516) hx hb d_Md_areApart_512 (by decide) ?_
                    exact J _ (rf_T (Or.inr (Or.inr (Or.inr ⟨(h_67.t c_68), (h_70.f c_71)⟩))))
              · refine lv_aload_n hx hb d_Md_areApart_451 rfl (lv_at hl 6 rfl) ?_
                refine lv_iload_n hx hb d_Md_areApart_452 rfl (lv_at hl 8 rfl) ?_
                refine lv_aload_n hx hb d_Md_areApart_453 rfl (lv_at hl 6 rfl) ?_
                refine va_get (D := D) (ci := 4) (v := .ref t1) (C := "RayFieldModel") (T := F_Md) (N := 18) hx hb hts in_Md hown hK hP 0 rfl rfl 2 (by decide) (hts _ w_282) (fun _ h9 => h9) rfl d_Md_areApart_454 ?_
                refine lv_iload_n hx hb d_Md_areApart_457 rfl (lv_at hl 7 rfl) ?_
                refine rf_iald hx hb hK hP 2 1 rfl rfl hi (by decide) d_Md_areApart_458 ?_
                refine lv_aload_n hx hb d_Md_areApart_459 rfl (lv_at hl 6 rfl) ?_
                refine va_get (D := D) (ci := 4) (v := .ref t2) (C := "RayFieldModel") (T := F_Md) (N := 18) hx hb hts in_Md hown hK hP 0 rfl rfl 3 (by decide) (hts _ w_283) (fun _ h9 => h9) rfl d_Md_areApart_460 ?_
                refine lv_iload_n hx hb d_Md_areApart_463 rfl (lv_at hl 7 rfl) ?_
                refine rf_iald hx hb hK hP 3 2 rfl rfl hi (by decide) d_Md_areApart_464 ?_
                refine vp_callSi (va_Run.run (rf_runV (As := [.int (nI j), .int (f1 i), .int (f2 i)]) (rest := []) S0 ml_Md_37 (c_Md_isEnd l D y t0 t1 t2 t3 t4 t5 c0 c1 c2 c3 c4 c5 ma ha ex ey dx dy ab be ri o1 o2 f0 f1 f2 f3 f4 f5 j hj (f1 i) (f2 i)) hE (va_recv hK hP (ci := 4) (q0 := 0) rfl rfl) hP ⟨rfl, rfl, Nat.le_of_ble_eq_true rfl, Nat.le_of_ble_eq_true rfl⟩ rfl hl.1 rfl (Nat.le_of_ble_eq_true rfl) d_Md_areApart_465 ⟨Nat.zero_le _, Nat.zero_le _⟩)) (fun r_72 h_73 => ?_)
                refine lv_if_eq (tgt := 511) hx hb d_Md_areApart_468 (by decide) (fun c_74 => ?_) (fun c_74 => ?_)
                · refine lv_iconst (v := 1) hx hb d_Md_areApart_511 (by decide) ?_
                  refine lv_goto (tgt := 516) hx hb d_Md_areApart_512 (by decide) ?_
                  exact J _ (rf_T (Or.inr (Or.inr (Or.inl ⟨(h_64.t c_65), (h_73.f c_74)⟩))))
                · refine lv_aload_n hx hb d_Md_areApart_471 rfl (lv_at hl 6 rfl) ?_
                  refine lv_iload_n hx hb d_Md_areApart_472 rfl (lv_at hl 8 rfl) ?_
                  refine lv_aload_n hx hb d_Md_areApart_473 rfl (lv_at hl 6 rfl) ?_
                  refine va_get (D := D) (ci := 4) (v := .ref t3) (C := "RayFieldModel") (T := F_Md) (N := 18) hx hb hts in_Md hown hK hP 0 rfl rfl 4 (by decide) (hts _ w_284) (fun _ h9 => h9) rfl d_Md_areApart_474 ?_
                  refine lv_iload_n hx hb d_Md_areApart_477 rfl (lv_at hl 7 rfl) ?_
                  refine rf_iald hx hb hK hP 4 3 rfl rfl hi (by decide) d_Md_areApart_478 ?_
                  refine lv_aload_n hx hb d_Md_areApart_479 rfl (lv_at hl 6 rfl) ?_
                  refine va_get (D := D) (ci := 4) (v := .ref t4) (C := "RayFieldModel") (T := F_Md) (N := 18) hx hb hts in_Md hown hK hP 0 rfl rfl 5 (by decide) (hts _ w_285) (fun _ h9 => h9) rfl d_Md_areApart_480 ?_
                  refine lv_iload_n hx hb d_Md_areApart_483 rfl (lv_at hl 7 rfl) ?_
                  refine rf_iald hx hb hK hP 5 4 rfl rfl hi (by decide) d_Md_areApart_484 ?_
                  refine vp_callSi (va_Run.run (rf_runV (As := [.int (nI j), .int (f3 i), .int (f4 i)]) (rest := []) S0 ml_Md_41 (c_Md_isOn l D y t0 t1 t2 t3 t4 t5 c0 c1 c2 c3 c4 c5 ma ha ex ey dx dy ab be ri o1 o2 f0 f1 f2 f3 f4 f5 j hj (f3 i) (f4 i)) hE (va_recv hK hP (ci := 4) (q0 := 0) rfl rfl) hP ⟨rfl, rfl, Nat.le_of_ble_eq_true rfl, Nat.le_of_ble_eq_true rfl⟩ rfl hl.1 rfl (Nat.le_of_ble_eq_true rfl) d_Md_areApart_485 ⟨Nat.zero_le _, Nat.zero_le _⟩)) (fun r_75 h_76 => ?_)
                  refine lv_if_eq (tgt := 515) hx hb d_Md_areApart_488 (by decide) (fun c_77 => ?_) (fun c_77 => ?_)
                  · refine lv_iconst (v := 0) hx hb d_Md_areApart_515 (by decide) ?_
                    exact J _ (rf_F (fun h => h.elim (fun h => (fun h => h (h_58.t c_59)) h.2) (fun h => h.elim (fun h => (h_61.f c_62) h.1) (fun h => h.elim (fun h => (fun h => h (h_73.t c_74)) h.2) (fun h => (h_76.f c_77) h.1)))))
                  · refine lv_aload_n hx hb d_Md_areApart_491 rfl (lv_at hl 6 rfl) ?_
                    refine lv_iload_n hx hb d_Md_areApart_492 rfl (lv_at hl 8 rfl) ?_
                    refine lv_aload_n hx hb d_Md_areApart_493 rfl (lv_at hl 6 rfl) ?_
                    refine va_get (D := D) (ci := 4) (v := .ref t3) (C := "RayFieldModel") (T := F_Md) (N := 18) hx hb hts in_Md hown hK hP 0 rfl rfl 4 (by decide) (hts _ w_284) (fun _ h9 => h9) rfl d_Md_areApart_494 ?_
                    refine lv_iload_n hx hb d_Md_areApart_497 rfl (lv_at hl 7 rfl) ?_
                    refine rf_iald hx hb hK hP 4 3 rfl rfl hi (by decide) d_Md_areApart_498 ?_
                    refine lv_aload_n hx hb d_Md_areApart_499 rfl (lv_at hl 6 rfl) ?_
                    refine va_get (D := D) (ci := 4) (v := .ref t4) (C := "RayFieldModel") (T := F_Md) (N := 18) hx hb hts in_Md hown hK hP 0 rfl rfl 5 (by decide) (hts _ w_285) (fun _ h9 => h9) rfl d_Md_areApart_500 ?_
                    refine lv_iload_n hx hb d_Md_areApart_503 rfl (lv_at hl 7 rfl) ?_
                    refine rf_iald hx hb hK hP 5 4 rfl rfl hi (by decide) d_Md_areApart_504 ?_
                    refine vp_callSi (va_Run.run (rf_runV (As := [.int (nI j), .int (f3 i), .int (f4 i)]) (rest := []) S0 ml_Md_37 (c_Md_isEnd l D y t0 t1 t2 t3 t4 t5 c0 c1 c2 c3 c4 c5 ma ha ex ey dx dy ab be ri o1 o2 f0 f1 f2 f3 f4 f5 j hj (f3 i) (f4 i)) hE (va_recv hK hP (ci := 4) (q0 := 0) rfl rfl) hP ⟨rfl, rfl, Nat.le_of_ble_eq_true rfl, Nat.le_of_ble_eq_true rfl⟩ rfl hl.1 rfl (Nat.le_of_ble_eq_true rfl) d_Md_areApart_505 ⟨Nat.zero_le _, Nat.zero_le _⟩)) (fun r_78 h_79 => ?_)
                    refine lv_if_ne (tgt := 515) hx hb d_Md_areApart_508 (by decide) (fun c_80 => ?_) (fun c_80 => ?_)
                    · refine lv_iconst (v := 0) hx hb d_Md_areApart_515 (by decide) ?_
                      exact J _ (rf_F (fun h => h.elim (fun h => (fun h => h (h_58.t c_59)) h.2) (fun h => h.elim (fun h => (h_61.f c_62) h.1) (fun h => h.elim (fun h => (fun h => h (h_73.t c_74)) h.2) (fun h => (fun h => h (h_79.t c_80)) h.2)))))
                    · refine lv_iconst (v := 1) hx hb d_Md_areApart_511 (by decide) ?_
                      refine lv_goto (tgt := 516) hx hb d_Md_areApart_512 (by decide) ?_
                      exact J _ (rf_T (Or.inr (Or.inr (Or.inr ⟨(h_76.t c_77), (h_79.f c_80)⟩))))
            · refine lv_aload_n hx hb d_Md_areApart_411 rfl (lv_at hl 6 rfl) ?_
              refine lv_iload_n hx hb d_Md_areApart_412 rfl (lv_at hl 7 rfl) ?_
              refine lv_aload_n hx hb d_Md_areApart_413 rfl (lv_at hl 6 rfl) ?_
              refine va_get (D := D) (ci := 4) (v := .ref t3) (C := "RayFieldModel") (T := F_Md) (N := 18) hx hb hts in_Md hown hK hP 0 rfl rfl 4 (by decide) (hts _ w_284) (fun _ h9 => h9) rfl d_Md_areApart_414 ?_
              refine lv_iload_n hx hb d_Md_areApart_417 rfl (lv_at hl 8 rfl) ?_
              refine rf_iald hx hb hK hP 4 3 rfl rfl hj (by decide) d_Md_areApart_418 ?_
              refine lv_aload_n hx hb d_Md_areApart_419 rfl (lv_at hl 6 rfl) ?_
              refine va_get (D := D) (ci := 4) (v := .ref t4) (C := "RayFieldModel") (T := F_Md) (N := 18) hx hb hts in_Md hown hK hP 0 rfl rfl 5 (by decide) (hts _ w_285) (fun _ h9 => h9) rfl d_Md_areApart_420 ?_
              refine lv_iload_n hx hb d_Md_areApart_423 rfl (lv_at hl 8 rfl) ?_
              refine rf_iald hx hb hK hP 5 4 rfl rfl hj (by decide) d_Md_areApart_424 ?_
              refine vp_callSi (va_Run.run (rf_runV (As := [.int (nI i), .int (f3 j), .int (f4 j)]) (rest := []) S0 ml_Md_37 (c_Md_isEnd l D y t0 t1 t2 t3 t4 t5 c0 c1 c2 c3 c4 c5 ma ha ex ey dx dy ab be ri o1 o2 f0 f1 f2 f3 f4 f5 i hi (f3 j) (f4 j)) hE (va_recv hK hP (ci := 4) (q0 := 0) rfl rfl) hP ⟨rfl, rfl, Nat.le_of_ble_eq_true rfl, Nat.le_of_ble_eq_true rfl⟩ rfl hl.1 rfl (Nat.le_of_ble_eq_true rfl) d_Md_areApart_425 ⟨Nat.zero_le _, Nat.zero_le _⟩)) (fun r_81 h_82 => ?_)
              refine lv_if_eq (tgt := 511) hx hb d_Md_areApart_428 (by decide) (fun c_83 => ?_) (fun c_83 => ?_)
              · refine lv_iconst (v := 1) hx hb d_Md_areApart_511 (by decide) ?_
                refine lv_goto (tgt := 516) hx hb d_Md_areApart_512 (by decide) ?_
                exact J _ (rf_T (Or.inr (Or.inl ⟨(h_61.t c_62), (h_82.f c_83)⟩)))
              · refine lv_aload_n hx hb d_Md_areApart_431 rfl (lv_at hl 6 rfl) ?_
                refine lv_iload_n hx hb d_Md_areApart_432 rfl (lv_at hl 8 rfl) ?_
                refine lv_aload_n hx hb d_Md_areApart_433 rfl (lv_at hl 6 rfl) ?_
                refine va_get (D := D) (ci := 4) (v := .ref t1) (C := "RayFieldModel") (T := F_Md) (N := 18) hx hb hts in_Md hown hK hP 0 rfl rfl 2 (by decide) (hts _ w_282) (fun _ h9 => h9) rfl d_Md_areApart_434 ?_
                refine lv_iload_n hx hb d_Md_areApart_437 rfl (lv_at hl 7 rfl) ?_
                refine rf_iald hx hb hK hP 2 1 rfl rfl hi (by decide) d_Md_areApart_438 ?_
                refine lv_aload_n hx hb d_Md_areApart_439 rfl (lv_at hl 6 rfl) ?_
                refine va_get (D := D) (ci := 4) (v := .ref t2) (C := "RayFieldModel") (T := F_Md) (N := 18) hx hb hts in_Md hown hK hP 0 rfl rfl 3 (by decide) (hts _ w_283) (fun _ h9 => h9) rfl d_Md_areApart_440 ?_
                refine lv_iload_n hx hb d_Md_areApart_443 rfl (lv_at hl 7 rfl) ?_
                refine rf_iald hx hb hK hP 3 2 rfl rfl hi (by decide) d_Md_areApart_444 ?_
                refine vp_callSi (va_Run.run (rf_runV (As := [.int (nI j), .int (f1 i), .int (f2 i)]) (rest := []) S0 ml_Md_41 (c_Md_isOn l D y t0 t1 t2 t3 t4 t5 c0 c1 c2 c3 c4 c5 ma ha ex ey dx dy ab be ri o1 o2 f0 f1 f2 f3 f4 f5 j hj (f1 i) (f2 i)) hE (va_recv hK hP (ci := 4) (q0 := 0) rfl rfl) hP ⟨rfl, rfl, Nat.le_of_ble_eq_true rfl, Nat.le_of_ble_eq_true rfl⟩ rfl hl.1 rfl (Nat.le_of_ble_eq_true rfl) d_Md_areApart_445 ⟨Nat.zero_le _, Nat.zero_le _⟩)) (fun r_84 h_85 => ?_)
                refine lv_if_eq (tgt := 471) hx hb d_Md_areApart_448 (by decide) (fun c_86 => ?_) (fun c_86 => ?_)
                · refine lv_aload_n hx hb d_Md_areApart_471 rfl (lv_at hl 6 rfl) ?_
                  refine lv_iload_n hx hb d_Md_areApart_472 rfl (lv_at hl 8 rfl) ?_
                  refine lv_aload_n hx hb d_Md_areApart_473 rfl (lv_at hl 6 rfl) ?_
                  refine va_get (D := D) (ci := 4) (v := .ref t3) (C := "RayFieldModel") (T := F_Md) (N := 18) hx hb hts in_Md hown hK hP 0 rfl rfl 4 (by decide) (hts _ w_284) (fun _ h9 => h9) rfl d_Md_areApart_474 ?_
                  refine lv_iload_n hx hb d_Md_areApart_477 rfl (lv_at hl 7 rfl) ?_
                  refine rf_iald hx hb hK hP 4 3 rfl rfl hi (by decide) d_Md_areApart_478 ?_
                  refine lv_aload_n hx hb d_Md_areApart_479 rfl (lv_at hl 6 rfl) ?_
                  refine va_get (D := D) (ci := 4) (v := .ref t4) (C := "RayFieldModel") (T := F_Md) (N := 18) hx hb hts in_Md hown hK hP 0 rfl rfl 5 (by decide) (hts _ w_285) (fun _ h9 => h9) rfl d_Md_areApart_480 ?_
                  refine lv_iload_n hx hb d_Md_areApart_483 rfl (lv_at hl 7 rfl) ?_
                  refine rf_iald hx hb hK hP 5 4 rfl rfl hi (by decide) d_Md_areApart_484 ?_
                  refine vp_callSi (va_Run.run (rf_runV (As := [.int (nI j), .int (f3 i), .int (f4 i)]) (rest := []) S0 ml_Md_41 (c_Md_isOn l D y t0 t1 t2 t3 t4 t5 c0 c1 c2 c3 c4 c5 ma ha ex ey dx dy ab be ri o1 o2 f0 f1 f2 f3 f4 f5 j hj (f3 i) (f4 i)) hE (va_recv hK hP (ci := 4) (q0 := 0) rfl rfl) hP ⟨rfl, rfl, Nat.le_of_ble_eq_true rfl, Nat.le_of_ble_eq_true rfl⟩ rfl hl.1 rfl (Nat.le_of_ble_eq_true rfl) d_Md_areApart_485 ⟨Nat.zero_le _, Nat.zero_le _⟩)) (fun r_87 h_88 => ?_)
                  refine lv_if_eq (tgt := 515) hx hb d_Md_areApart_488 (by decide) (fun c_89 => ?_) (fun c_89 => ?_)
                  · refine lv_iconst (v := 0) hx hb d_Md_areApart_515 (by decide) ?_
                    exact J _ (rf_F (fun h => h.elim (fun h => (fun h => h (h_58.t c_59)) h.2) (fun h => h.elim (fun h => (fun h => h (h_82.t c_83)) h.2) (fun h => h.elim (fun h => (h_85.f c_86) h.1) (fun h => (h_88.f c_89) h.1)))))
                  · refine lv_aload_n hx hb d_Md_areApart_491 rfl (lv_at hl 6 rfl) ?_
                    refine lv_iload_n hx hb d_Md_areApart_492 rfl (lv_at hl 8 rfl) ?_
                    refine lv_aload_n hx hb d_Md_areApart_493 rfl (lv_at hl 6 rfl) ?_
                    refine va_get (D := D) (ci := 4) (v := .ref t3) (C := "RayFieldModel") (T := F_Md) (N := 18) hx hb hts in_Md hown hK hP 0 rfl rfl 4 (by decide) (hts _ w_284) (fun _ h9 => h9) rfl d_Md_areApart_494 ?_
                    refine lv_iload_n hx hb d_Md_areApart_497 rfl (lv_at hl 7 rfl) ?_
                    refine rf_iald hx hb hK hP 4 3 rfl rfl hi (by decide) d_Md_areApart_498 ?_
                    refine lv_aload_n hx hb d_Md_areApart_499 rfl (lv_at hl 6 rfl) ?_
                    refine va_get (D := D) (ci := 4) (v := .ref t4) (C := "RayFieldModel") (T := F_Md) (N := 18) hx hb hts in_Md hown hK hP 0 rfl rfl 5 (by decide) (hts _ w_285) (fun _ h9 => h9) rfl d_Md_areApart_500 ?_
                    refine lv_iload_n hx hb d_Md_areApart_503 rfl (lv_at hl 7 rfl) ?_
                    refine rf_iald hx hb hK hP 5 4 rfl rfl hi (by decide) d_Md_areApart_504 ?_
                    refine vp_callSi (va_Run.run (rf_runV (As := [.int (nI j), .int (f3 i), .int (f4 i)]) (rest := []) S0 ml_Md_37 (c_Md_isEnd l D y t0 t1 t2 t3 t4 t5 c0 c1 c2 c3 c4 c5 ma ha ex ey dx dy ab be ri o1 o2 f0 f1 f2 f3 f4 f5 j hj (f3 i) (f4 i)) hE (va_recv hK hP (ci := 4) (q0 := 0) rfl rfl) hP ⟨rfl, rfl, Nat.le_of_ble_eq_true rfl, Nat.le_of_ble_eq_true rfl⟩ rfl hl.1 rfl (Nat.le_of_ble_eq_true rfl) d_Md_areApart_505 ⟨Nat.zero_le _, Nat.zero_le _⟩)) (fun r_90 h_91 => ?_)
                    refine lv_if_ne (tgt := 515) hx hb d_Md_areApart_508 (by decide) (fun c_92 => ?_) (fun c_92 => ?_)
                    · refine lv_iconst (v := 0) hx hb d_Md_areApart_515 (by decide) ?_
                      exact J _ (rf_F (fun h => h.elim (fun h => (fun h => h (h_58.t c_59)) h.2) (fun h => h.elim (fun h => (fun h => h (h_82.t c_83)) h.2) (fun h => h.elim (fun h => (h_85.f c_86) h.1) (fun h => (fun h => h (h_91.t c_92)) h.2)))))
                    · refine lv_iconst (v := 1) hx hb d_Md_areApart_511 (by decide) ?_
                      refine lv_goto (tgt := 516) hx hb d_Md_areApart_512 (by decide) ?_
                      exact J _ (rf_T (Or.inr (Or.inr (Or.inr ⟨(h_88.t c_89), (h_91.f c_92)⟩))))
                · refine lv_aload_n hx hb d_Md_areApart_451 rfl (lv_at hl 6 rfl) ?_
                  refine lv_iload_n hx hb d_Md_areApart_452 rfl (lv_at hl 8 rfl) ?_
                  refine lv_aload_n hx hb d_Md_areApart_453 rfl (lv_at hl 6 rfl) ?_
                  refine va_get (D := D) (ci := 4) (v := .ref t1) (C := "RayFieldModel") (T := F_Md) (N := 18) hx hb hts in_Md hown hK hP 0 rfl rfl 2 (by decide) (hts _ w_282) (fun _ h9 => h9) rfl d_Md_areApart_454 ?_
                  refine lv_iload_n hx hb d_Md_areApart_457 rfl (lv_at hl 7 rfl) ?_
                  refine rf_iald hx hb hK hP 2 1 rfl rfl hi (by decide) d_Md_areApart_458 ?_
                  refine lv_aload_n hx hb d_Md_areApart_459 rfl (lv_at hl 6 rfl) ?_
                  refine va_get (D := D) (ci := 4) (v := .ref t2) (C := "RayFieldModel") (T := F_Md) (N := 18) hx hb hts in_Md hown hK hP 0 rfl rfl 3 (by decide) (hts _ w_283) (fun _ h9 => h9) rfl d_Md_areApart_460 ?_
                  refine lv_iload_n hx hb d_Md_areApart_463 rfl (lv_at hl 7 rfl) ?_
                  refine rf_iald hx hb hK hP 3 2 rfl rfl hi (by decide) d_Md_areApart_464 ?_
                  refine vp_callSi (va_Run.run (rf_runV (As := [.int (nI j), .int (f1 i), .int (f2 i)]) (rest := []) S0 ml_Md_37 (c_Md_isEnd l D y t0 t1 t2 t3 t4 t5 c0 c1 c2 c3 c4 c5 ma ha ex ey dx dy ab be ri o1 o2 f0 f1 f2 f3 f4 f5 j hj (f1 i) (f2 i)) hE (va_recv hK hP (ci := 4) (q0 := 0) rfl rfl) hP ⟨rfl, rfl, Nat.le_of_ble_eq_true rfl, Nat.le_of_ble_eq_true rfl⟩ rfl hl.1 rfl (Nat.le_of_ble_eq_true rfl) d_Md_areApart_465 ⟨Nat.zero_le _, Nat.zero_le _⟩)) (fun r_93 h_94 => ?_)
                  refine lv_if_eq (tgt := 511) hx hb d_Md_areApart_468 (by decide) (fun c_95 => ?_) (fun c_95 => ?_)
                  · refine lv_iconst (v := 1) hx hb d_Md_areApart_511 (by decide) ?_
                    refine lv_goto (tgt := 516) hx hb d_Md_areApart_512 (by decide) ?_
                    exact J _ (rf_T (Or.inr (Or.inr (Or.inl ⟨(h_85.t c_86), (h_94.f c_95)⟩))))
                  · refine lv_aload_n hx hb d_Md_areApart_471 rfl (lv_at hl 6 rfl) ?_
                    refine lv_iload_n hx hb d_Md_areApart_472 rfl (lv_at hl 8 rfl) ?_
                    refine lv_aload_n hx hb d_Md_areApart_473 rfl (lv_at hl 6 rfl) ?_
                    refine va_get (D := D) (ci := 4) (v := .ref t3) (C := "RayFieldModel") (T := F_Md) (N := 18) hx hb hts in_Md hown hK hP 0 rfl rfl 4 (by decide) (hts _ w_284) (fun _ h9 => h9) rfl d_Md_areApart_474 ?_
                    refine lv_iload_n hx hb d_Md_areApart_477 rfl (lv_at hl 7 rfl) ?_
                    refine rf_iald hx hb hK hP 4 3 rfl rfl hi (by decide) d_Md_areApart_478 ?_
                    refine lv_aload_n hx hb d_Md_areApart_479 rfl (lv_at hl 6 rfl) ?_
                    refine va_get (D := D) (ci := 4) (v := .ref t4) (C := "RayFieldModel") (T := F_Md) (N := 18) hx hb hts in_Md hown hK hP 0 rfl rfl 5 (by decide) (hts _ w_285) (fun _ h9 => h9) rfl d_Md_areApart_480 ?_
                    refine lv_iload_n hx hb d_Md_areApart_483 rfl (lv_at hl 7 rfl) ?_
                    refine rf_iald hx hb hK hP 5 4 rfl rfl hi (by decide) d_Md_areApart_484 ?_
                    refine vp_callSi (va_Run.run (rf_runV (As := [.int (nI j), .int (f3 i), .int (f4 i)]) (rest := []) S0 ml_Md_41 (c_Md_isOn l D y t0 t1 t2 t3 t4 t5 c0 c1 c2 c3 c4 c5 ma ha ex ey dx dy ab be ri o1 o2 f0 f1 f2 f3 f4 f5 j hj (f3 i) (f4 i)) hE (va_recv hK hP (ci := 4) (q0 := 0) rfl rfl) hP ⟨rfl, rfl, Nat.le_of_ble_eq_true rfl, Nat.le_of_ble_eq_true rfl⟩ rfl hl.1 rfl (Nat.le_of_ble_eq_true rfl) d_Md_areApart_485 ⟨Nat.zero_le _, Nat.zero_le _⟩)) (fun r_96 h_97 => ?_)
                    refine lv_if_eq (tgt := 515) hx hb d_Md_areApart_488 (by decide) (fun c_98 => ?_) (fun c_98 => ?_)
                    · refine lv_iconst (v := 0) hx hb d_Md_areApart_515 (by decide) ?_
                      exact J _ (rf_F (fun h => h.elim (fun h => (fun h => h (h_58.t c_59)) h.2) (fun h => h.elim (fun h => (fun h => h (h_82.t c_83)) h.2) (fun h => h.elim (fun h => (fun h => h (h_94.t c_95)) h.2) (fun h => (h_97.f c_98) h.1)))))
                    · refine lv_aload_n hx hb d_Md_areApart_491 rfl (lv_at hl 6 rfl) ?_
                      refine lv_iload_n hx hb d_Md_areApart_492 rfl (lv_at hl 8 rfl) ?_
                      refine lv_aload_n hx hb d_Md_areApart_493 rfl (lv_at hl 6 rfl) ?_
                      refine va_get (D := D) (ci := 4) (v := .ref t3) (C := "RayFieldModel") (T := F_Md) (N := 18) hx hb hts in_Md hown hK hP 0 rfl rfl 4 (by decide) (hts _ w_284) (fun _ h9 => h9) rfl d_Md_areApart_494 ?_
                      refine lv_iload_n hx hb d_Md_areApart_497 rfl (lv_at hl 7 rfl) ?_
                      refine rf_iald hx hb hK hP 4 3 rfl rfl hi (by decide) d_Md_areApart_498 ?_
                      refine lv_aload_n hx hb d_Md_areApart_499 rfl (lv_at hl 6 rfl) ?_
                      refine va_get (D := D) (ci := 4) (v := .ref t4) (C := "RayFieldModel") (T := F_Md) (N := 18) hx hb hts in_Md hown hK hP 0 rfl rfl 5 (by decide) (hts _ w_285) (fun _ h9 => h9) rfl d_Md_areApart_500 ?_
                      refine lv_iload_n hx hb d_Md_areApart_503 rfl (lv_at hl 7 rfl) ?_
                      refine rf_iald hx hb hK hP 5 4 rfl rfl hi (by decide) d_Md_areApart_504 ?_
                      refine vp_callSi (va_Run.run (rf_runV (As := [.int (nI j), .int (f3 i), .int (f4 i)]) (rest := []) S0 ml_Md_37 (c_Md_isEnd l D y t0 t1 t2 t3 t4 t5 c0 c1 c2 c3 c4 c5 ma ha ex ey dx dy ab be ri o1 o2 f0 f1 f2 f3 f4 f5 j hj (f3 i) (f4 i)) hE (va_recv hK hP (ci := 4) (q0 := 0) rfl rfl) hP ⟨rfl, rfl, Nat.le_of_ble_eq_true rfl, Nat.le_of_ble_eq_true rfl⟩ rfl hl.1 rfl (Nat.le_of_ble_eq_true rfl) d_Md_areApart_505 ⟨Nat.zero_le _, Nat.zero_le _⟩)) (fun r_99 h_100 => ?_)
                      refine lv_if_ne (tgt := 515) hx hb d_Md_areApart_508 (by decide) (fun c_101 => ?_) (fun c_101 => ?_)
                      · refine lv_iconst (v := 0) hx hb d_Md_areApart_515 (by decide) ?_
                        exact J _ (rf_F (fun h => h.elim (fun h => (fun h => h (h_58.t c_59)) h.2) (fun h => h.elim (fun h => (fun h => h (h_82.t c_83)) h.2) (fun h => h.elim (fun h => (fun h => h (h_94.t c_95)) h.2) (fun h => (fun h => h (h_100.t c_101)) h.2)))))
                      · refine lv_iconst (v := 1) hx hb d_Md_areApart_511 (by decide) ?_
                        refine lv_goto (tgt := 516) hx hb d_Md_areApart_512 (by decide) ?_
                        exact J _ (rf_T (Or.inr (Or.inr (Or.inr ⟨(h_97.t c_98), (h_100.f c_101)⟩))))
    · refine lv_aload_n hx hb d_Md_areApart_304 rfl (lv_at hl 5 rfl) ?_
      refine lv_iload_n hx hb d_Md_areApart_305 rfl (lv_at hl 7 rfl) ?_
      refine lv_aload_n hx hb d_Md_areApart_306 rfl (lv_at hl 5 rfl) ?_
      refine va_get (D := D) (ci := 4) (v := .ref t1) (C := "RayFieldModel") (T := F_Md) (N := 18) hx hb hts in_Md hown hK hP 0 rfl rfl 2 (by decide) (hts _ w_282) (fun _ h9 => h9) rfl d_Md_areApart_307 ?_
      refine lv_iload_n hx hb d_Md_areApart_310 rfl (lv_at hl 6 rfl) ?_
      refine rf_iald hx hb hK hP 2 1 rfl rfl hi (by decide) d_Md_areApart_311 ?_
      refine lv_aload_n hx hb d_Md_areApart_312 rfl (lv_at hl 5 rfl) ?_
      refine va_get (D := D) (ci := 4) (v := .ref t2) (C := "RayFieldModel") (T := F_Md) (N := 18) hx hb hts in_Md hown hK hP 0 rfl rfl 3 (by decide) (hts _ w_283) (fun _ h9 => h9) rfl d_Md_areApart_313 ?_
      refine lv_iload_n hx hb d_Md_areApart_316 rfl (lv_at hl 6 rfl) ?_
      refine rf_iald hx hb hK hP 3 2 rfl rfl hi (by decide) d_Md_areApart_317 ?_
      refine vp_callSi (va_Run.run (rf_runV (As := [.int (nI j), .int (f1 i), .int (f2 i)]) (rest := []) S0 ml_Md_37 (c_Md_isEnd l D y t0 t1 t2 t3 t4 t5 c0 c1 c2 c3 c4 c5 ma ha ex ey dx dy ab be ri o1 o2 f0 f1 f2 f3 f4 f5 j hj (f1 i) (f2 i)) hE (va_recv hK hP (ci := 4) (q0 := 0) rfl rfl) hP ⟨rfl, rfl, Nat.le_of_ble_eq_true rfl, Nat.le_of_ble_eq_true rfl⟩ rfl hl.1 rfl (Nat.le_of_ble_eq_true rfl) d_Md_areApart_318 ⟨Nat.zero_le _, Nat.zero_le _⟩)) (fun r_102 h_103 => ?_)
      refine lv_if_eq (tgt := 348) hx hb d_Md_areApart_321 (by decide) (fun c_104 => ?_) (fun c_104 => ?_)
      · refine lv_iconst (v := 0) hx hb d_Md_areApart_348 (by decide) ?_
        exact J _ (rf_F (fun h => (h_103.f c_104) h.1))
      · refine lv_aload_n hx hb d_Md_areApart_324 rfl (lv_at hl 5 rfl) ?_
        refine lv_iload_n hx hb d_Md_areApart_325 rfl (lv_at hl 7 rfl) ?_
        refine lv_aload_n hx hb d_Md_areApart_326 rfl (lv_at hl 5 rfl) ?_
        refine va_get (D := D) (ci := 4) (v := .ref t3) (C := "RayFieldModel") (T := F_Md) (N := 18) hx hb hts in_Md hown hK hP 0 rfl rfl 4 (by decide) (hts _ w_284) (fun _ h9 => h9) rfl d_Md_areApart_327 ?_
        refine lv_iload_n hx hb d_Md_areApart_330 rfl (lv_at hl 6 rfl) ?_
        refine rf_iald hx hb hK hP 4 3 rfl rfl hi (by decide) d_Md_areApart_331 ?_
        refine lv_aload_n hx hb d_Md_areApart_332 rfl (lv_at hl 5 rfl) ?_
        refine va_get (D := D) (ci := 4) (v := .ref t4) (C := "RayFieldModel") (T := F_Md) (N := 18) hx hb hts in_Md hown hK hP 0 rfl rfl 5 (by decide) (hts _ w_285) (fun _ h9 => h9) rfl d_Md_areApart_333 ?_
        refine lv_iload_n hx hb d_Md_areApart_336 rfl (lv_at hl 6 rfl) ?_
        refine rf_iald hx hb hK hP 5 4 rfl rfl hi (by decide) d_Md_areApart_337 ?_
        refine vp_callSi (va_Run.run (rf_runV (As := [.int (nI j), .int (f3 i), .int (f4 i)]) (rest := []) S0 ml_Md_37 (c_Md_isEnd l D y t0 t1 t2 t3 t4 t5 c0 c1 c2 c3 c4 c5 ma ha ex ey dx dy ab be ri o1 o2 f0 f1 f2 f3 f4 f5 j hj (f3 i) (f4 i)) hE (va_recv hK hP (ci := 4) (q0 := 0) rfl rfl) hP ⟨rfl, rfl, Nat.le_of_ble_eq_true rfl, Nat.le_of_ble_eq_true rfl⟩ rfl hl.1 rfl (Nat.le_of_ble_eq_true rfl) d_Md_areApart_338 ⟨Nat.zero_le _, Nat.zero_le _⟩)) (fun r_105 h_106 => ?_)
        refine lv_if_eq (tgt := 348) hx hb d_Md_areApart_341 (by decide) (fun c_107 => ?_) (fun c_107 => ?_)
        · refine lv_iconst (v := 0) hx hb d_Md_areApart_348 (by decide) ?_
          exact J _ (rf_F (fun h => (h_106.f c_107) h.2))
        · refine lv_iconst (v := 1) hx hb d_Md_areApart_344 (by decide) ?_
          refine lv_goto (tgt := 349) hx hb d_Md_areApart_345 (by decide) ?_
          exact J _ (rf_T ⟨(h_103.t c_104), (h_106.t c_107)⟩)
  · refine lv_lload_n hx hb d_Md_areApart_243 rfl (lv_at hl 3 rfl) ?_
    refine lv_lconst (v := 0) hx hb d_Md_areApart_244 (by decide) ?_
    refine rf_lcmp_ge (tgt := 256) hx hb d_Md_areApart_245 d_Md_areApart_246 (by decide) (fun c_108 => ?_) (fun c_108 => ?_)
    · refine lv_lload_n hx hb d_Md_areApart_256 rfl (lv_at hl 3 rfl) ?_
      refine lv_lconst (v := 0) hx hb d_Md_areApart_257 (by decide) ?_
      refine rf_lcmp_le (tgt := 301) hx hb d_Md_areApart_258 d_Md_areApart_259 (by decide) (fun c_109 => ?_) (fun c_109 => ?_)
      · refine lv_iconst (v := 0) hx hb d_Md_areApart_301 (by decide) ?_
        exact J _ (rf_F (fun h => (fun h => h.elim (fun h => (Int64.not_lt.mpr c_108) h.1) (fun h => (Int64.not_lt.mpr c_109) h.1)) h.1))
      · refine lv_lload hx hb d_Md_areApart_262 (lv_at hl 2 rfl) ?_
        refine lv_lconst (v := 0) hx hb d_Md_areApart_264 (by decide) ?_
        refine rf_lcmp_ge (tgt := 301) hx hb d_Md_areApart_265 d_Md_areApart_266 (by decide) (fun c_110 => ?_) (fun c_110 => ?_)
        · refine lv_iconst (v := 0) hx hb d_Md_areApart_301 (by decide) ?_
          exact J _ (rf_F (fun h => (fun h => h.elim (fun h => (Int64.not_lt.mpr c_108) h.1) (fun h => (Int64.not_lt.mpr c_110) h.2)) h.1))
        · refine lv_lload hx hb d_Md_areApart_269 (lv_at hl 1 rfl) ?_
          refine lv_lconst (v := 0) hx hb d_Md_areApart_271 (by decide) ?_
          refine rf_lcmp_ge (tgt := 283) hx hb d_Md_areApart_272 d_Md_areApart_273 (by decide) (fun c_111 => ?_) (fun c_111 => ?_)
          · refine lv_lload hx hb d_Md_areApart_283 (lv_at hl 1 rfl) ?_
            refine lv_lconst (v := 0) hx hb d_Md_areApart_285 (by decide) ?_
            refine rf_lcmp_le (tgt := 301) hx hb d_Md_areApart_286 d_Md_areApart_287 (by decide) (fun c_112 => ?_) (fun c_112 => ?_)
            · refine lv_iconst (v := 0) hx hb d_Md_areApart_301 (by decide) ?_
              exact J _ (rf_F (fun h => (fun h => h.elim (fun h => (Int64.not_lt.mpr c_111) h.1) (fun h => (Int64.not_lt.mpr c_112) h.1)) h.2))
            · refine lv_lload hx hb d_Md_areApart_290 (lv_at hl 0 rfl) ?_
              refine lv_lconst (v := 0) hx hb d_Md_areApart_292 (by decide) ?_
              refine rf_lcmp_ge (tgt := 301) hx hb d_Md_areApart_293 d_Md_areApart_294 (by decide) (fun c_113 => ?_) (fun c_113 => ?_)
              · refine lv_iconst (v := 0) hx hb d_Md_areApart_301 (by decide) ?_
                exact J _ (rf_F (fun h => (fun h => h.elim (fun h => (Int64.not_lt.mpr c_111) h.1) (fun h => (Int64.not_lt.mpr c_113) h.2)) h.2))
              · refine lv_iconst (v := 1) hx hb d_Md_areApart_297 (by decide) ?_
                refine lv_goto (tgt := 302) hx hb d_Md_areApart_298 (by decide) ?_
                exact J _ (rf_T ⟨(Or.inr ⟨(Int64.not_le.mp c_109), (Int64.not_le.mp c_110)⟩), (Or.inr ⟨(Int64.not_le.mp c_112), (Int64.not_le.mp c_113)⟩)⟩)
          · refine lv_lload hx hb d_Md_areApart_276 (lv_at hl 0 rfl) ?_
            refine lv_lconst (v := 0) hx hb d_Md_areApart_278 (by decide) ?_
            refine rf_lcmp_gt (tgt := 297) hx hb d_Md_areApart_279 d_Md_areApart_280 (by decide) (fun c_114 => ?_) (fun c_114 => ?_)
            · refine lv_iconst (v := 1) hx hb d_Md_areApart_297 (by decide) ?_
              refine lv_goto (tgt := 302) hx hb d_Md_areApart_298 (by decide) ?_
              exact J _ (rf_T ⟨(Or.inr ⟨(Int64.not_le.mp c_109), (Int64.not_le.mp c_110)⟩), (Or.inl ⟨(Int64.not_le.mp c_111), c_114⟩)⟩)
            · refine lv_lload hx hb d_Md_areApart_283 (lv_at hl 1 rfl) ?_
              refine lv_lconst (v := 0) hx hb d_Md_areApart_285 (by decide) ?_
              refine rf_lcmp_le (tgt := 301) hx hb d_Md_areApart_286 d_Md_areApart_287 (by decide) (fun c_115 => ?_) (fun c_115 => ?_)
              · refine lv_iconst (v := 0) hx hb d_Md_areApart_301 (by decide) ?_
                exact J _ (rf_F (fun h => (fun h => h.elim (fun h => c_114 h.2) (fun h => (Int64.not_lt.mpr c_115) h.1)) h.2))
              · refine lv_lload hx hb d_Md_areApart_290 (lv_at hl 0 rfl) ?_
                refine lv_lconst (v := 0) hx hb d_Md_areApart_292 (by decide) ?_
                refine rf_lcmp_ge (tgt := 301) hx hb d_Md_areApart_293 d_Md_areApart_294 (by decide) (fun c_116 => ?_) (fun c_116 => ?_)
                · refine lv_iconst (v := 0) hx hb d_Md_areApart_301 (by decide) ?_
                  exact J _ (rf_F (fun h => (fun h => h.elim (fun h => c_114 h.2) (fun h => (Int64.not_lt.mpr c_116) h.2)) h.2))
                · refine lv_iconst (v := 1) hx hb d_Md_areApart_297 (by decide) ?_
                  refine lv_goto (tgt := 302) hx hb d_Md_areApart_298 (by decide) ?_
                  exact J _ (rf_T ⟨(Or.inr ⟨(Int64.not_le.mp c_109), (Int64.not_le.mp c_110)⟩), (Or.inr ⟨(Int64.not_le.mp c_115), (Int64.not_le.mp c_116)⟩)⟩)
    · refine lv_lload hx hb d_Md_areApart_249 (lv_at hl 2 rfl) ?_
      refine lv_lconst (v := 0) hx hb d_Md_areApart_251 (by decide) ?_
      refine rf_lcmp_gt (tgt := 269) hx hb d_Md_areApart_252 d_Md_areApart_253 (by decide) (fun c_117 => ?_) (fun c_117 => ?_)
      · refine lv_lload hx hb d_Md_areApart_269 (lv_at hl 1 rfl) ?_
        refine lv_lconst (v := 0) hx hb d_Md_areApart_271 (by decide) ?_
        refine rf_lcmp_ge (tgt := 283) hx hb d_Md_areApart_272 d_Md_areApart_273 (by decide) (fun c_118 => ?_) (fun c_118 => ?_)
        · refine lv_lload hx hb d_Md_areApart_283 (lv_at hl 1 rfl) ?_
          refine lv_lconst (v := 0) hx hb d_Md_areApart_285 (by decide) ?_
          refine rf_lcmp_le (tgt := 301) hx hb d_Md_areApart_286 d_Md_areApart_287 (by decide) (fun c_119 => ?_) (fun c_119 => ?_)
          · refine lv_iconst (v := 0) hx hb d_Md_areApart_301 (by decide) ?_
            exact J _ (rf_F (fun h => (fun h => h.elim (fun h => (Int64.not_lt.mpr c_118) h.1) (fun h => (Int64.not_lt.mpr c_119) h.1)) h.2))
          · refine lv_lload hx hb d_Md_areApart_290 (lv_at hl 0 rfl) ?_
            refine lv_lconst (v := 0) hx hb d_Md_areApart_292 (by decide) ?_
            refine rf_lcmp_ge (tgt := 301) hx hb d_Md_areApart_293 d_Md_areApart_294 (by decide) (fun c_120 => ?_) (fun c_120 => ?_)
            · refine lv_iconst (v := 0) hx hb d_Md_areApart_301 (by decide) ?_
              exact J _ (rf_F (fun h => (fun h => h.elim (fun h => (Int64.not_lt.mpr c_118) h.1) (fun h => (Int64.not_lt.mpr c_120) h.2)) h.2))
            · refine lv_iconst (v := 1) hx hb d_Md_areApart_297 (by decide) ?_
              refine lv_goto (tgt := 302) hx hb d_Md_areApart_298 (by decide) ?_
              exact J _ (rf_T ⟨(Or.inl ⟨(Int64.not_le.mp c_108), c_117⟩), (Or.inr ⟨(Int64.not_le.mp c_119), (Int64.not_le.mp c_120)⟩)⟩)
        · refine lv_lload hx hb d_Md_areApart_276 (lv_at hl 0 rfl) ?_
          refine lv_lconst (v := 0) hx hb d_Md_areApart_278 (by decide) ?_
          refine rf_lcmp_gt (tgt := 297) hx hb d_Md_areApart_279 d_Md_areApart_280 (by decide) (fun c_121 => ?_) (fun c_121 => ?_)
          · refine lv_iconst (v := 1) hx hb d_Md_areApart_297 (by decide) ?_
            refine lv_goto (tgt := 302) hx hb d_Md_areApart_298 (by decide) ?_
            exact J _ (rf_T ⟨(Or.inl ⟨(Int64.not_le.mp c_108), c_117⟩), (Or.inl ⟨(Int64.not_le.mp c_118), c_121⟩)⟩)
          · refine lv_lload hx hb d_Md_areApart_283 (lv_at hl 1 rfl) ?_
            refine lv_lconst (v := 0) hx hb d_Md_areApart_285 (by decide) ?_
            refine rf_lcmp_le (tgt := 301) hx hb d_Md_areApart_286 d_Md_areApart_287 (by decide) (fun c_122 => ?_) (fun c_122 => ?_)
            · refine lv_iconst (v := 0) hx hb d_Md_areApart_301 (by decide) ?_
              exact J _ (rf_F (fun h => (fun h => h.elim (fun h => c_121 h.2) (fun h => (Int64.not_lt.mpr c_122) h.1)) h.2))
            · refine lv_lload hx hb d_Md_areApart_290 (lv_at hl 0 rfl) ?_
              refine lv_lconst (v := 0) hx hb d_Md_areApart_292 (by decide) ?_
              refine rf_lcmp_ge (tgt := 301) hx hb d_Md_areApart_293 d_Md_areApart_294 (by decide) (fun c_123 => ?_) (fun c_123 => ?_)
              · refine lv_iconst (v := 0) hx hb d_Md_areApart_301 (by decide) ?_
                exact J _ (rf_F (fun h => (fun h => h.elim (fun h => c_121 h.2) (fun h => (Int64.not_lt.mpr c_123) h.2)) h.2))
              · refine lv_iconst (v := 1) hx hb d_Md_areApart_297 (by decide) ?_
                refine lv_goto (tgt := 302) hx hb d_Md_areApart_298 (by decide) ?_
                exact J _ (rf_T ⟨(Or.inl ⟨(Int64.not_le.mp c_108), c_117⟩), (Or.inr ⟨(Int64.not_le.mp c_122), (Int64.not_le.mp c_123)⟩)⟩)
      · refine lv_lload_n hx hb d_Md_areApart_256 rfl (lv_at hl 3 rfl) ?_
        refine lv_lconst (v := 0) hx hb d_Md_areApart_257 (by decide) ?_
        refine rf_lcmp_le (tgt := 301) hx hb d_Md_areApart_258 d_Md_areApart_259 (by decide) (fun c_124 => ?_) (fun c_124 => ?_)
        · refine lv_iconst (v := 0) hx hb d_Md_areApart_301 (by decide) ?_
          exact J _ (rf_F (fun h => (fun h => h.elim (fun h => c_117 h.2) (fun h => (Int64.not_lt.mpr c_124) h.1)) h.1))
        · refine lv_lload hx hb d_Md_areApart_262 (lv_at hl 2 rfl) ?_
          refine lv_lconst (v := 0) hx hb d_Md_areApart_264 (by decide) ?_
          refine rf_lcmp_ge (tgt := 301) hx hb d_Md_areApart_265 d_Md_areApart_266 (by decide) (fun c_125 => ?_) (fun c_125 => ?_)
          · refine lv_iconst (v := 0) hx hb d_Md_areApart_301 (by decide) ?_
            exact J _ (rf_F (fun h => (fun h => h.elim (fun h => c_117 h.2) (fun h => (Int64.not_lt.mpr c_125) h.2)) h.1))
          · refine lv_lload hx hb d_Md_areApart_269 (lv_at hl 1 rfl) ?_
            refine lv_lconst (v := 0) hx hb d_Md_areApart_271 (by decide) ?_
            refine rf_lcmp_ge (tgt := 283) hx hb d_Md_areApart_272 d_Md_areApart_273 (by decide) (fun c_126 => ?_) (fun c_126 => ?_)
            · refine lv_lload hx hb d_Md_areApart_283 (lv_at hl 1 rfl) ?_
              refine lv_lconst (v := 0) hx hb d_Md_areApart_285 (by decide) ?_
              refine rf_lcmp_le (tgt := 301) hx hb d_Md_areApart_286 d_Md_areApart_287 (by decide) (fun c_127 => ?_) (fun c_127 => ?_)
              · refine lv_iconst (v := 0) hx hb d_Md_areApart_301 (by decide) ?_
                exact J _ (rf_F (fun h => (fun h => h.elim (fun h => (Int64.not_lt.mpr c_126) h.1) (fun h => (Int64.not_lt.mpr c_127) h.1)) h.2))
              · refine lv_lload hx hb d_Md_areApart_290 (lv_at hl 0 rfl) ?_
                refine lv_lconst (v := 0) hx hb d_Md_areApart_292 (by decide) ?_
                refine rf_lcmp_ge (tgt := 301) hx hb d_Md_areApart_293 d_Md_areApart_294 (by decide) (fun c_128 => ?_) (fun c_128 => ?_)
                · refine lv_iconst (v := 0) hx hb d_Md_areApart_301 (by decide) ?_
                  exact J _ (rf_F (fun h => (fun h => h.elim (fun h => (Int64.not_lt.mpr c_126) h.1) (fun h => (Int64.not_lt.mpr c_128) h.2)) h.2))
                · refine lv_iconst (v := 1) hx hb d_Md_areApart_297 (by decide) ?_
                  refine lv_goto (tgt := 302) hx hb d_Md_areApart_298 (by decide) ?_
                  exact J _ (rf_T ⟨(Or.inr ⟨(Int64.not_le.mp c_124), (Int64.not_le.mp c_125)⟩), (Or.inr ⟨(Int64.not_le.mp c_127), (Int64.not_le.mp c_128)⟩)⟩)
            · refine lv_lload hx hb d_Md_areApart_276 (lv_at hl 0 rfl) ?_
              refine lv_lconst (v := 0) hx hb d_Md_areApart_278 (by decide) ?_
              refine rf_lcmp_gt (tgt := 297) hx hb d_Md_areApart_279 d_Md_areApart_280 (by decide) (fun c_129 => ?_) (fun c_129 => ?_)
              · refine lv_iconst (v := 1) hx hb d_Md_areApart_297 (by decide) ?_
                refine lv_goto (tgt := 302) hx hb d_Md_areApart_298 (by decide) ?_
                exact J _ (rf_T ⟨(Or.inr ⟨(Int64.not_le.mp c_124), (Int64.not_le.mp c_125)⟩), (Or.inl ⟨(Int64.not_le.mp c_126), c_129⟩)⟩)
              · refine lv_lload hx hb d_Md_areApart_283 (lv_at hl 1 rfl) ?_
                refine lv_lconst (v := 0) hx hb d_Md_areApart_285 (by decide) ?_
                refine rf_lcmp_le (tgt := 301) hx hb d_Md_areApart_286 d_Md_areApart_287 (by decide) (fun c_130 => ?_) (fun c_130 => ?_)
                · refine lv_iconst (v := 0) hx hb d_Md_areApart_301 (by decide) ?_
                  exact J _ (rf_F (fun h => (fun h => h.elim (fun h => c_129 h.2) (fun h => (Int64.not_lt.mpr c_130) h.1)) h.2))
                · refine lv_lload hx hb d_Md_areApart_290 (lv_at hl 0 rfl) ?_
                  refine lv_lconst (v := 0) hx hb d_Md_areApart_292 (by decide) ?_
                  refine rf_lcmp_ge (tgt := 301) hx hb d_Md_areApart_293 d_Md_areApart_294 (by decide) (fun c_131 => ?_) (fun c_131 => ?_)
                  · refine lv_iconst (v := 0) hx hb d_Md_areApart_301 (by decide) ?_
                    exact J _ (rf_F (fun h => (fun h => h.elim (fun h => c_129 h.2) (fun h => (Int64.not_lt.mpr c_131) h.2)) h.2))
                  · refine lv_iconst (v := 1) hx hb d_Md_areApart_297 (by decide) ?_
                    refine lv_goto (tgt := 302) hx hb d_Md_areApart_298 (by decide) ?_
                    exact J _ (rf_T ⟨(Or.inr ⟨(Int64.not_le.mp c_124), (Int64.not_le.mp c_125)⟩), (Or.inr ⟨(Int64.not_le.mp c_130), (Int64.not_le.mp c_131)⟩)⟩)
end
section
set_option maxHeartbeats 4000000 in
set_option maxRecDepth 100000 in
theorem c_Md_meets (l : Launch) (D : va_G) (y t0 t1 t2 t3 t4 t5 : Nat) (c0 c1 c2 c3 c4 c5 : ClassId) (ma ha ex ey dx dy : Int32) (ab be : Int64) (ri : Int32) (o1 o2 : Int64) (f0 f1 f2 f3 f4 f5 : Nat → Int32) (k : Nat) (hk : k < 64) (sz : Nat) : Met l y_Md_meets (.code y_Md_meets b_Md_meets 2 (some (.boolean)) :: BIG) { frames := 1, cells := 0, slots := 0, locals := 40 } (rf_Pc D (y_t c0 c1 c2 c3 c4 c5) [.ref y, .int (nI k)] (fun h => h.size = sz ∧ va_P D vwCl (y_7 y t0 t1 t2 t3 t4 t5 c0 c1 c2 c3 c4 c5 ma ha ex ey dx dy ab be ri o1 o2 f0 f1 f2 f3 f4 f5) h ∧ va_D (fun _ => True) (y_7 y t0 t1 t2 t3 t4 t5 c0 c1 c2 c3 c4 c5 ma ha ex ey dx dy ab be ri o1 o2 f0 f1 f2 f3 f4 f5))) (va_Qi (S := Unit) (fun r _ => rf_tf r (k_met (f1 k, f2 k, f3 k, f4 k) (ex, ey, dx, dy))) (fun u t => va_P D vwCl (y_7 y t0 t1 t2 t3 t4 t5 c0 c1 c2 c3 c4 c5 ma ha ex ey dx dy (k_up (f1 k, f2 k, f3 k, f4 k) (ex, ey, dx, dy)) (k_dn (f1 k, f2 k, f3 k, f4 k) (ex, ey, dx, dy)) (k_ri (f1 k, f2 k, f3 k, f4 k) (ex, ey, dx, dy)) (m_a (f1 k, f2 k, f3 k, f4 k) (ex, ey, dx, dy)) (m_b (f1 k, f2 k, f3 k, f4 k) (ex, ey, dx, dy)) f0 f1 f2 f3 f4 f5) t.heap ∧ va_D (va_A (y_7 y t0 t1 t2 t3 t4 t5 c0 c1 c2 c3 c4 c5 ma ha ex ey dx dy ab be ri o1 o2 f0 f1 f2 f3 f4 f5) sz) (y_7 y t0 t1 t2 t3 t4 t5 c0 c1 c2 c3 c4 c5 ma ha ex ey dx dy (k_up (f1 k, f2 k, f3 k, f4 k) (ex, ey, dx, dy)) (k_dn (f1 k, f2 k, f3 k, f4 k) (ex, ey, dx, dy)) (k_ri (f1 k, f2 k, f3 k, f4 k) (ex, ey, dx, dy)) (m_a (f1 k, f2 k, f3 k, f4 k) (ex, ey, dx, dy)) (m_b (f1 k, f2 k, f3 k, f4 k) (ex, ey, dx, dy)) f0 f1 f2 f3 f4 f5)) (va_A (y_7 y t0 t1 t2 t3 t4 t5 c0 c1 c2 c3 c4 c5 ma ha ex ey dx dy ab be ri o1 o2 f0 f1 f2 f3 f4 f5) sz)) 0 0 (va_A (y_7 y t0 t1 t2 t3 t4 t5 c0 c1 c2 c3 c4 c5 ma ha ex ey dx dy ab be ri o1 o2 f0 f1 f2 f3 f4 f5) sz) := by
  refine Met.ofW (cc := b_Md_meets) (maxL := 2) (ret := (some (.boolean))) (by decide) rfl ?_
  intro p e s m args below meth c s₁ B hml hv
  obtain ⟨rfl, hE, hP⟩ := hv
  have hx := B.exec
  have hb := B.bytes
  have hr := B.returns
  have hts : ∀ w ∈ BIG, w.before [.ref y, .int (nI k)].toArray s = true := fun w h => atoms_spec (ws := .code y_Md_meets b_Md_meets 2 (some (.boolean)) :: BIG) B.pre w (List.mem_cons_of_mem _ h)
  have hown : s.vm.findClass "RayFieldModel" = some m.cls := findClass_of_methodNamed B.named
  have hlocks := B.notSynchronized
  have hK := hE.2
  have S0 : CallFix p m c b_Md_meets 2 s [.ref y, .int (nI k)].toArray BIG "RayFieldModel" := ⟨hx, hb, hml, hown, hts⟩
  have hl := lv_entry ([.ref y, .int (nI k)]) (n := 2) (Nat.le_of_ble_eq_true rfl)
  rw [lg_entry_eq]
  generalize (lg_sl ([.ref y, .int (nI k)]) ++ List.replicate (2 - (lg_sl ([.ref y, .int (nI k)])).length) Slot.unset).toArray = ls at hl ⊢
  have hl : lv_has ls 2 [(0, .ref y), (1, .int (nI k))] := hl
  obtain ⟨hsz, hP, hD0⟩ := hP
  subst hsz
  have hD := hD0.self (sz := s.heap.size)
  generalize hAe : va_A (y_7 y t0 t1 t2 t3 t4 t5 c0 c1 c2 c3 c4 c5 ma ha ex ey dx dy ab be ri o1 o2 f0 f1 f2 f3 f4 f5) s.heap.size = A at hD ⊢
  have hA : ∀ q : Nat, s.heap.size ≤ q → A q := fun q h => by rw [← hAe]; exact Or.inr h
  obtain ⟨H, hH⟩ : ∃ H : Heap, H = s.heap := ⟨_, rfl⟩
  refine rf_heap hH ?_
  have hS : va_S A s.heap H [] := by rw [hH]; exact va_S.rf
  have hP : va_P D vwCl (y_7 y t0 t1 t2 t3 t4 t5 c0 c1 c2 c3 c4 c5 ma ha ex ey dx dy ab be ri o1 o2 f0 f1 f2 f3 f4 f5) H := by rw [hH]; exact hP
  refine lv_aload_n hx hb d_Md_meets_0 rfl (lv_at hl 0 rfl) ?_
  refine lv_aload_n hx hb d_Md_meets_1 rfl (lv_at hl 0 rfl) ?_
  refine va_get (D := D) (ci := 4) (v := .int dx) (C := "RayFieldModel") (T := F_Md) (N := 18) hx hb hts in_Md hown hK hP 0 rfl rfl 10 (by decide) (hts _ w_290) (fun _ h9 => h9) rfl d_Md_meets_2 ?_
  refine lv_i2l hx hb d_Md_meets_5 rfl ?_
  refine lv_aload_n hx hb d_Md_meets_6 rfl (lv_at hl 0 rfl) ?_
  refine va_get (D := D) (ci := 4) (v := .int dy) (C := "RayFieldModel") (T := F_Md) (N := 18) hx hb hts in_Md hown hK hP 0 rfl rfl 11 (by decide) (hts _ w_291) (fun _ h9 => h9) rfl d_Md_meets_7 ?_
  refine lv_i2l hx hb d_Md_meets_10 rfl ?_
  refine lv_aload_n hx hb d_Md_meets_11 rfl (lv_at hl 0 rfl) ?_
  refine va_get (D := D) (ci := 4) (v := .ref t1) (C := "RayFieldModel") (T := F_Md) (N := 18) hx hb hts in_Md hown hK hP 0 rfl rfl 2 (by decide) (hts _ w_282) (fun _ h9 => h9) rfl d_Md_meets_12 ?_
  refine lv_iload_n hx hb d_Md_meets_15 rfl (lv_at hl 1 rfl) ?_
  refine rf_iald hx hb hK hP 2 1 rfl rfl hk (by decide) d_Md_meets_16 ?_
  refine lv_aload_n hx hb d_Md_meets_17 rfl (lv_at hl 0 rfl) ?_
  refine va_get (D := D) (ci := 4) (v := .int ex) (C := "RayFieldModel") (T := F_Md) (N := 18) hx hb hts in_Md hown hK hP 0 rfl rfl 8 (by decide) (hts _ w_288) (fun _ h9 => h9) rfl d_Md_meets_18 ?_
  refine lv_isub hx hb d_Md_meets_21 ?_
  refine lv_i2l hx hb d_Md_meets_22 rfl ?_
  refine lv_aload_n hx hb d_Md_meets_23 rfl (lv_at hl 0 rfl) ?_
  refine va_get (D := D) (ci := 4) (v := .ref t2) (C := "RayFieldModel") (T := F_Md) (N := 18) hx hb hts in_Md hown hK hP 0 rfl rfl 3 (by decide) (hts _ w_283) (fun _ h9 => h9) rfl d_Md_meets_24 ?_
  refine lv_iload_n hx hb d_Md_meets_27 rfl (lv_at hl 1 rfl) ?_
  refine rf_iald hx hb hK hP 3 2 rfl rfl hk (by decide) d_Md_meets_28 ?_
  refine lv_aload_n hx hb d_Md_meets_29 rfl (lv_at hl 0 rfl) ?_
  refine va_get (D := D) (ci := 4) (v := .int ey) (C := "RayFieldModel") (T := F_Md) (N := 18) hx hb hts in_Md hown hK hP 0 rfl rfl 9 (by decide) (hts _ w_289) (fun _ h9 => h9) rfl d_Md_meets_30 ?_
  refine lv_isub hx hb d_Md_meets_33 ?_
  refine lv_i2l hx hb d_Md_meets_34 rfl ?_
  refine vp_callSl (va_Run.run (rf_runS (As := [.long dx.toInt64, .long dy.toInt64, .long (((f1 k) - ex).toInt64), .long (((f2 k) - ey).toInt64)]) (rest := [.ref y]) S0 ml_Md_33 (c_Md_cross l D (y_t c0 c1 c2 c3 c4 c5) dx.toInt64 dy.toInt64 (((f1 k) - ex).toInt64) (((f2 k) - ey).toInt64)) hE trivial ⟨rfl, rfl, Nat.le_of_ble_eq_true rfl, Nat.le_of_ble_eq_true rfl⟩ rfl hl.1 rfl (Nat.le_of_ble_eq_true rfl) d_Md_meets_35 ⟨Nat.zero_le _, Nat.zero_le _⟩)) (fun r_1 h_2 => ?_)
  subst h_2
  refine rf_topl (y := m_a (f1 k, f2 k, f3 k, f4 k) (ex, ey, dx, dy)) rfl ?_
  refine va_put (D := D) (ci := 4) (v := .long (m_a (f1 k, f2 k, f3 k, f4 k) (ex, ey, dx, dy))) (ty := .long) (C := "RayFieldModel") (T := F_Md) (N := 18) hx hb hts in_Md t_Md tok_Md nn_Md hown hK hP hD hS 0 rfl rfl 15 (by decide) (hts _ w_295) (fun _ h9 => h9) rfl (by decide +kernel) rfl rfl (Nat.le_of_ble_eq_true rfl) d_Md_meets_38 (fun H locs hP hD hS => ?_)
  have hP : va_P D vwCl (y_7 y t0 t1 t2 t3 t4 t5 c0 c1 c2 c3 c4 c5 ma ha ex ey dx dy ab be ri (m_a (f1 k, f2 k, f3 k, f4 k) (ex, ey, dx, dy)) o2 f0 f1 f2 f3 f4 f5) H := hP
  have hD : va_D A (y_7 y t0 t1 t2 t3 t4 t5 c0 c1 c2 c3 c4 c5 ma ha ex ey dx dy ab be ri (m_a (f1 k, f2 k, f3 k, f4 k) (ex, ey, dx, dy)) o2 f0 f1 f2 f3 f4 f5) := hD
  refine lv_aload_n hx hb d_Md_meets_41 rfl (lv_at hl 0 rfl) ?_
  refine lv_aload_n hx hb d_Md_meets_42 rfl (lv_at hl 0 rfl) ?_
  refine va_get (D := D) (ci := 4) (v := .int dx) (C := "RayFieldModel") (T := F_Md) (N := 18) hx hb hts in_Md hown hK hP 0 rfl rfl 10 (by decide) (hts _ w_290) (fun _ h9 => h9) rfl d_Md_meets_43 ?_
  refine lv_i2l hx hb d_Md_meets_46 rfl ?_
  refine lv_aload_n hx hb d_Md_meets_47 rfl (lv_at hl 0 rfl) ?_
  refine va_get (D := D) (ci := 4) (v := .int dy) (C := "RayFieldModel") (T := F_Md) (N := 18) hx hb hts in_Md hown hK hP 0 rfl rfl 11 (by decide) (hts _ w_291) (fun _ h9 => h9) rfl d_Md_meets_48 ?_
  refine lv_i2l hx hb d_Md_meets_51 rfl ?_
  refine lv_aload_n hx hb d_Md_meets_52 rfl (lv_at hl 0 rfl) ?_
  refine va_get (D := D) (ci := 4) (v := .ref t3) (C := "RayFieldModel") (T := F_Md) (N := 18) hx hb hts in_Md hown hK hP 0 rfl rfl 4 (by decide) (hts _ w_284) (fun _ h9 => h9) rfl d_Md_meets_53 ?_
  refine lv_iload_n hx hb d_Md_meets_56 rfl (lv_at hl 1 rfl) ?_
  refine rf_iald hx hb hK hP 4 3 rfl rfl hk (by decide) d_Md_meets_57 ?_
  refine lv_aload_n hx hb d_Md_meets_58 rfl (lv_at hl 0 rfl) ?_
  refine va_get (D := D) (ci := 4) (v := .int ex) (C := "RayFieldModel") (T := F_Md) (N := 18) hx hb hts in_Md hown hK hP 0 rfl rfl 8 (by decide) (hts _ w_288) (fun _ h9 => h9) rfl d_Md_meets_59 ?_
  refine lv_isub hx hb d_Md_meets_62 ?_
  refine lv_i2l hx hb d_Md_meets_63 rfl ?_
  refine lv_aload_n hx hb d_Md_meets_64 rfl (lv_at hl 0 rfl) ?_
  refine va_get (D := D) (ci := 4) (v := .ref t4) (C := "RayFieldModel") (T := F_Md) (N := 18) hx hb hts in_Md hown hK hP 0 rfl rfl 5 (by decide) (hts _ w_285) (fun _ h9 => h9) rfl d_Md_meets_65 ?_
  refine lv_iload_n hx hb d_Md_meets_68 rfl (lv_at hl 1 rfl) ?_
  refine rf_iald hx hb hK hP 5 4 rfl rfl hk (by decide) d_Md_meets_69 ?_
  refine lv_aload_n hx hb d_Md_meets_70 rfl (lv_at hl 0 rfl) ?_
  refine va_get (D := D) (ci := 4) (v := .int ey) (C := "RayFieldModel") (T := F_Md) (N := 18) hx hb hts in_Md hown hK hP 0 rfl rfl 9 (by decide) (hts _ w_289) (fun _ h9 => h9) rfl d_Md_meets_71 ?_
  refine lv_isub hx hb d_Md_meets_74 ?_
  refine lv_i2l hx hb d_Md_meets_75 rfl ?_
  refine vp_callSl (va_Run.run (rf_runS (As := [.long dx.toInt64, .long dy.toInt64, .long (((f3 k) - ex).toInt64), .long (((f4 k) - ey).toInt64)]) (rest := [.ref y]) S0 ml_Md_33 (c_Md_cross l D (y_t c0 c1 c2 c3 c4 c5) dx.toInt64 dy.toInt64 (((f3 k) - ex).toInt64) (((f4 k) - ey).toInt64)) hE trivial ⟨rfl, rfl, Nat.le_of_ble_eq_true rfl, Nat.le_of_ble_eq_true rfl⟩ rfl hl.1 rfl (Nat.le_of_ble_eq_true rfl) d_Md_meets_76 ⟨Nat.zero_le _, Nat.zero_le _⟩)) (fun r_3 h_4 => ?_)
  subst h_4
  refine rf_topl (y := m_b (f1 k, f2 k, f3 k, f4 k) (ex, ey, dx, dy)) rfl ?_
  refine va_put (D := D) (ci := 4) (v := .long (m_b (f1 k, f2 k, f3 k, f4 k) (ex, ey, dx, dy))) (ty := .long) (C := "RayFieldModel") (T := F_Md) (N := 18) hx hb hts in_Md t_Md tok_Md nn_Md hown hK hP hD hS 0 rfl rfl 16 (by decide) (hts _ w_296) (fun _ h9 => h9) rfl (by decide +kernel) rfl rfl (Nat.le_of_ble_eq_true rfl) d_Md_meets_79 (fun H locs hP hD hS => ?_)
  have hP : va_P D vwCl (y_7 y t0 t1 t2 t3 t4 t5 c0 c1 c2 c3 c4 c5 ma ha ex ey dx dy ab be ri (m_a (f1 k, f2 k, f3 k, f4 k) (ex, ey, dx, dy)) (m_b (f1 k, f2 k, f3 k, f4 k) (ex, ey, dx, dy)) f0 f1 f2 f3 f4 f5) H := hP
  have hD : va_D A (y_7 y t0 t1 t2 t3 t4 t5 c0 c1 c2 c3 c4 c5 ma ha ex ey dx dy ab be ri (m_a (f1 k, f2 k, f3 k, f4 k) (ex, ey, dx, dy)) (m_b (f1 k, f2 k, f3 k, f4 k) (ex, ey, dx, dy)) f0 f1 f2 f3 f4 f5) := hD
  refine lv_aload_n hx hb d_Md_meets_82 rfl (lv_at hl 0 rfl) ?_
  refine lv_aload_n hx hb d_Md_meets_83 rfl (lv_at hl 0 rfl) ?_
  refine va_get (D := D) (ci := 4) (v := .ref t1) (C := "RayFieldModel") (T := F_Md) (N := 18) hx hb hts in_Md hown hK hP 0 rfl rfl 2 (by decide) (hts _ w_282) (fun _ h9 => h9) rfl d_Md_meets_84 ?_
  refine lv_iload_n hx hb d_Md_meets_87 rfl (lv_at hl 1 rfl) ?_
  refine rf_iald hx hb hK hP 2 1 rfl rfl hk (by decide) d_Md_meets_88 ?_
  refine lv_aload_n hx hb d_Md_meets_89 rfl (lv_at hl 0 rfl) ?_
  refine va_get (D := D) (ci := 4) (v := .int ex) (C := "RayFieldModel") (T := F_Md) (N := 18) hx hb hts in_Md hown hK hP 0 rfl rfl 8 (by decide) (hts _ w_288) (fun _ h9 => h9) rfl d_Md_meets_90 ?_
  refine lv_isub hx hb d_Md_meets_93 ?_
  refine lv_i2l hx hb d_Md_meets_94 rfl ?_
  refine lv_aload_n hx hb d_Md_meets_95 rfl (lv_at hl 0 rfl) ?_
  refine va_get (D := D) (ci := 4) (v := .ref t2) (C := "RayFieldModel") (T := F_Md) (N := 18) hx hb hts in_Md hown hK hP 0 rfl rfl 3 (by decide) (hts _ w_283) (fun _ h9 => h9) rfl d_Md_meets_96 ?_
  refine lv_iload_n hx hb d_Md_meets_99 rfl (lv_at hl 1 rfl) ?_
  refine rf_iald hx hb hK hP 3 2 rfl rfl hk (by decide) d_Md_meets_100 ?_
  refine lv_aload_n hx hb d_Md_meets_101 rfl (lv_at hl 0 rfl) ?_
  refine va_get (D := D) (ci := 4) (v := .int ey) (C := "RayFieldModel") (T := F_Md) (N := 18) hx hb hts in_Md hown hK hP 0 rfl rfl 9 (by decide) (hts _ w_289) (fun _ h9 => h9) rfl d_Md_meets_102 ?_
  refine lv_isub hx hb d_Md_meets_105 ?_
  refine lv_i2l hx hb d_Md_meets_106 rfl ?_
  refine lv_aload_n hx hb d_Md_meets_107 rfl (lv_at hl 0 rfl) ?_
  refine va_get (D := D) (ci := 4) (v := .ref t3) (C := "RayFieldModel") (T := F_Md) (N := 18) hx hb hts in_Md hown hK hP 0 rfl rfl 4 (by decide) (hts _ w_284) (fun _ h9 => h9) rfl d_Md_meets_108 ?_
  refine lv_iload_n hx hb d_Md_meets_111 rfl (lv_at hl 1 rfl) ?_
  refine rf_iald hx hb hK hP 4 3 rfl rfl hk (by decide) d_Md_meets_112 ?_
  refine lv_aload_n hx hb d_Md_meets_113 rfl (lv_at hl 0 rfl) ?_
  refine va_get (D := D) (ci := 4) (v := .ref t1) (C := "RayFieldModel") (T := F_Md) (N := 18) hx hb hts in_Md hown hK hP 0 rfl rfl 2 (by decide) (hts _ w_282) (fun _ h9 => h9) rfl d_Md_meets_114 ?_
  refine lv_iload_n hx hb d_Md_meets_117 rfl (lv_at hl 1 rfl) ?_
  refine rf_iald hx hb hK hP 2 1 rfl rfl hk (by decide) d_Md_meets_118 ?_
  refine lv_isub hx hb d_Md_meets_119 ?_
  refine lv_i2l hx hb d_Md_meets_120 rfl ?_
  refine lv_aload_n hx hb d_Md_meets_121 rfl (lv_at hl 0 rfl) ?_
  refine va_get (D := D) (ci := 4) (v := .ref t4) (C := "RayFieldModel") (T := F_Md) (N := 18) hx hb hts in_Md hown hK hP 0 rfl rfl 5 (by decide) (hts _ w_285) (fun _ h9 => h9) rfl d_Md_meets_122 ?_
  refine lv_iload_n hx hb d_Md_meets_125 rfl (lv_at hl 1 rfl) ?_
  refine rf_iald hx hb hK hP 5 4 rfl rfl hk (by decide) d_Md_meets_126 ?_
  refine lv_aload_n hx hb d_Md_meets_127 rfl (lv_at hl 0 rfl) ?_
  refine va_get (D := D) (ci := 4) (v := .ref t2) (C := "RayFieldModel") (T := F_Md) (N := 18) hx hb hts in_Md hown hK hP 0 rfl rfl 3 (by decide) (hts _ w_283) (fun _ h9 => h9) rfl d_Md_meets_128 ?_
  refine lv_iload_n hx hb d_Md_meets_131 rfl (lv_at hl 1 rfl) ?_
  refine rf_iald hx hb hK hP 3 2 rfl rfl hk (by decide) d_Md_meets_132 ?_
  refine lv_isub hx hb d_Md_meets_133 ?_
  refine lv_i2l hx hb d_Md_meets_134 rfl ?_
  refine vp_callSl (va_Run.run (rf_runS (As := [.long (((f1 k) - ex).toInt64), .long (((f2 k) - ey).toInt64), .long (((f3 k) - (f1 k)).toInt64), .long (((f4 k) - (f2 k)).toInt64)]) (rest := [.ref y]) S0 ml_Md_33 (c_Md_cross l D (y_t c0 c1 c2 c3 c4 c5) (((f1 k) - ex).toInt64) (((f2 k) - ey).toInt64) (((f3 k) - (f1 k)).toInt64) (((f4 k) - (f2 k)).toInt64)) hE trivial ⟨rfl, rfl, Nat.le_of_ble_eq_true rfl, Nat.le_of_ble_eq_true rfl⟩ rfl hl.1 rfl (Nat.le_of_ble_eq_true rfl) d_Md_meets_135 ⟨Nat.zero_le _, Nat.zero_le _⟩)) (fun r_5 h_6 => ?_)
  subst h_6
  refine rf_topl (y := k_p0 (f1 k, f2 k, f3 k, f4 k) (ex, ey, dx, dy)) rfl ?_
  refine va_put (D := D) (ci := 4) (v := .long (k_p0 (f1 k, f2 k, f3 k, f4 k) (ex, ey, dx, dy))) (ty := .long) (C := "RayFieldModel") (T := F_Md) (N := 18) hx hb hts in_Md t_Md tok_Md nn_Md hown hK hP hD hS 0 rfl rfl 12 (by decide) (hts _ w_292) (fun _ h9 => h9) rfl (by decide +kernel) rfl rfl (Nat.le_of_ble_eq_true rfl) d_Md_meets_138 (fun H locs hP hD hS => ?_)
  have hP : va_P D vwCl (y_7 y t0 t1 t2 t3 t4 t5 c0 c1 c2 c3 c4 c5 ma ha ex ey dx dy (k_p0 (f1 k, f2 k, f3 k, f4 k) (ex, ey, dx, dy)) be ri (m_a (f1 k, f2 k, f3 k, f4 k) (ex, ey, dx, dy)) (m_b (f1 k, f2 k, f3 k, f4 k) (ex, ey, dx, dy)) f0 f1 f2 f3 f4 f5) H := hP
  have hD : va_D A (y_7 y t0 t1 t2 t3 t4 t5 c0 c1 c2 c3 c4 c5 ma ha ex ey dx dy (k_p0 (f1 k, f2 k, f3 k, f4 k) (ex, ey, dx, dy)) be ri (m_a (f1 k, f2 k, f3 k, f4 k) (ex, ey, dx, dy)) (m_b (f1 k, f2 k, f3 k, f4 k) (ex, ey, dx, dy)) f0 f1 f2 f3 f4 f5) := hD
  refine lv_aload_n hx hb d_Md_meets_141 rfl (lv_at hl 0 rfl) ?_
  refine lv_aload_n hx hb d_Md_meets_142 rfl (lv_at hl 0 rfl) ?_
  refine va_get (D := D) (ci := 4) (v := .long (m_b (f1 k, f2 k, f3 k, f4 k) (ex, ey, dx, dy))) (C := "RayFieldModel") (T := F_Md) (N := 18) hx hb hts in_Md hown hK hP 0 rfl rfl 16 (by decide) (hts _ w_296) (fun _ h9 => h9) rfl d_Md_meets_143 ?_
  refine lv_aload_n hx hb d_Md_meets_146 rfl (lv_at hl 0 rfl) ?_
  refine va_get (D := D) (ci := 4) (v := .long (m_a (f1 k, f2 k, f3 k, f4 k) (ex, ey, dx, dy))) (C := "RayFieldModel") (T := F_Md) (N := 18) hx hb hts in_Md hown hK hP 0 rfl rfl 15 (by decide) (hts _ w_295) (fun _ h9 => h9) rfl d_Md_meets_147 ?_
  refine lv_lsub hx hb d_Md_meets_150 ?_
  refine rf_topl (y := m_q (f1 k, f2 k, f3 k, f4 k) (ex, ey, dx, dy)) rfl ?_
  refine va_put (D := D) (ci := 4) (v := .long (m_q (f1 k, f2 k, f3 k, f4 k) (ex, ey, dx, dy))) (ty := .long) (C := "RayFieldModel") (T := F_Md) (N := 18) hx hb hts in_Md t_Md tok_Md nn_Md hown hK hP hD hS 0 rfl rfl 13 (by decide) (hts _ w_293) (fun _ h9 => h9) rfl (by decide +kernel) rfl rfl (Nat.le_of_ble_eq_true rfl) d_Md_meets_151 (fun H locs hP hD hS => ?_)
  have hP : va_P D vwCl (y_7 y t0 t1 t2 t3 t4 t5 c0 c1 c2 c3 c4 c5 ma ha ex ey dx dy (k_p0 (f1 k, f2 k, f3 k, f4 k) (ex, ey, dx, dy)) (m_q (f1 k, f2 k, f3 k, f4 k) (ex, ey, dx, dy)) ri (m_a (f1 k, f2 k, f3 k, f4 k) (ex, ey, dx, dy)) (m_b (f1 k, f2 k, f3 k, f4 k) (ex, ey, dx, dy)) f0 f1 f2 f3 f4 f5) H := hP
  have hD : va_D A (y_7 y t0 t1 t2 t3 t4 t5 c0 c1 c2 c3 c4 c5 ma ha ex ey dx dy (k_p0 (f1 k, f2 k, f3 k, f4 k) (ex, ey, dx, dy)) (m_q (f1 k, f2 k, f3 k, f4 k) (ex, ey, dx, dy)) ri (m_a (f1 k, f2 k, f3 k, f4 k) (ex, ey, dx, dy)) (m_b (f1 k, f2 k, f3 k, f4 k) (ex, ey, dx, dy)) f0 f1 f2 f3 f4 f5) := hD
  refine rf_joinH 172 [] (fun H locs => va_P D vwCl (y_7 y t0 t1 t2 t3 t4 t5 c0 c1 c2 c3 c4 c5 ma ha ex ey dx dy (k_p0 (f1 k, f2 k, f3 k, f4 k) (ex, ey, dx, dy)) (m_q (f1 k, f2 k, f3 k, f4 k) (ex, ey, dx, dy)) (k_ri (f1 k, f2 k, f3 k, f4 k) (ex, ey, dx, dy)) (m_a (f1 k, f2 k, f3 k, f4 k) (ex, ey, dx, dy)) (m_b (f1 k, f2 k, f3 k, f4 k) (ex, ey, dx, dy)) f0 f1 f2 f3 f4 f5) H ∧ va_D A (y_7 y t0 t1 t2 t3 t4 t5 c0 c1 c2 c3 c4 c5 ma ha ex ey dx dy (k_p0 (f1 k, f2 k, f3 k, f4 k) (ex, ey, dx, dy)) (m_q (f1 k, f2 k, f3 k, f4 k) (ex, ey, dx, dy)) (k_ri (f1 k, f2 k, f3 k, f4 k) (ex, ey, dx, dy)) (m_a (f1 k, f2 k, f3 k, f4 k) (ex, ey, dx, dy)) (m_b (f1 k, f2 k, f3 k, f4 k) (ex, ey, dx, dy)) f0 f1 f2 f3 f4 f5) ∧ va_S A s.heap H locs) (fun H locs hI => ?_) (fun J => ?_)
  · obtain ⟨hP, hD, hS⟩ := hI
    refine rf_joinH 199 [] (fun H locs => va_P D vwCl (y_7 y t0 t1 t2 t3 t4 t5 c0 c1 c2 c3 c4 c5 ma ha ex ey dx dy (k_up (f1 k, f2 k, f3 k, f4 k) (ex, ey, dx, dy)) (k_dn (f1 k, f2 k, f3 k, f4 k) (ex, ey, dx, dy)) (k_ri (f1 k, f2 k, f3 k, f4 k) (ex, ey, dx, dy)) (m_a (f1 k, f2 k, f3 k, f4 k) (ex, ey, dx, dy)) (m_b (f1 k, f2 k, f3 k, f4 k) (ex, ey, dx, dy)) f0 f1 f2 f3 f4 f5) H ∧ va_D A (y_7 y t0 t1 t2 t3 t4 t5 c0 c1 c2 c3 c4 c5 ma ha ex ey dx dy (k_up (f1 k, f2 k, f3 k, f4 k) (ex, ey, dx, dy)) (k_dn (f1 k, f2 k, f3 k, f4 k) (ex, ey, dx, dy)) (k_ri (f1 k, f2 k, f3 k, f4 k) (ex, ey, dx, dy)) (m_a (f1 k, f2 k, f3 k, f4 k) (ex, ey, dx, dy)) (m_b (f1 k, f2 k, f3 k, f4 k) (ex, ey, dx, dy)) f0 f1 f2 f3 f4 f5) ∧ va_S A s.heap H locs) (fun H locs hI => ?_) (fun J => ?_)
    · obtain ⟨hP, hD, hS⟩ := hI
      refine lv_aload_n hx hb d_Md_meets_199 rfl (lv_at hl 0 rfl) ?_
      refine va_get (D := D) (ci := 4) (v := .long (m_a (f1 k, f2 k, f3 k, f4 k) (ex, ey, dx, dy))) (C := "RayFieldModel") (T := F_Md) (N := 18) hx hb hts in_Md hown hK hP 0 rfl rfl 15 (by decide) (hts _ w_295) (fun _ h9 => h9) rfl d_Md_meets_200 ?_
      refine lv_lconst (v := 0) hx hb d_Md_meets_203 (by decide) ?_
      refine rf_lcmp_ge (tgt := 212) hx hb d_Md_meets_204 d_Md_meets_205 (by decide) (fun c_7 => ?_) (fun c_7 => ?_)
      · refine lv_iconst (v := 0) hx hb d_Md_meets_212 (by decide) ?_
        refine lv_aload_n hx hb d_Md_meets_213 rfl (lv_at hl 0 rfl) ?_
        refine va_get (D := D) (ci := 4) (v := .long (m_b (f1 k, f2 k, f3 k, f4 k) (ex, ey, dx, dy))) (C := "RayFieldModel") (T := F_Md) (N := 18) hx hb hts in_Md hown hK hP 0 rfl rfl 16 (by decide) (hts _ w_296) (fun _ h9 => h9) rfl d_Md_meets_214 ?_
        refine lv_lconst (v := 0) hx hb d_Md_meets_217 (by decide) ?_
        refine rf_lcmp_ge (tgt := 226) hx hb d_Md_meets_218 d_Md_meets_219 (by decide) (fun c_8 => ?_) (fun c_8 => ?_)
        · refine lv_iconst (v := 0) hx hb d_Md_meets_226 (by decide) ?_
          refine lv_icmp_eq (tgt := 243) hx hb d_Md_meets_227 (by decide) (fun c_9 => ?_) (fun c_9 => absurd rfl c_9)
          refine lv_iconst (v := 0) hx hb d_Md_meets_243 (by decide) ?_
          exact W.zret (v := 0) (ty := .boolean) hx hb hr rfl (fun t ht hW => ⟨⟨_, (), rfl, (rf_F (fun h => h.1 ⟨fun q => absurd q (Int64.not_lt.mpr c_7), fun q => absurd q (Int64.not_lt.mpr c_8)⟩)), by rw [ht]; exact hP, hD⟩, hS.F ht⟩) hS.2.2 d_Md_meets_244
        · refine lv_iconst (v := 1) hx hb d_Md_meets_222 (by decide) ?_
          refine lv_goto (tgt := 227) hx hb d_Md_meets_223 (by decide) ?_
          refine lv_icmp_eq (tgt := 243) hx hb d_Md_meets_227 (by decide) (fun c_10 => absurd c_10 (by decide)) (fun c_10 => ?_)
          refine lv_aload_n hx hb d_Md_meets_230 rfl (lv_at hl 0 rfl) ?_
          refine va_get (D := D) (ci := 4) (v := .long (k_up (f1 k, f2 k, f3 k, f4 k) (ex, ey, dx, dy))) (C := "RayFieldModel") (T := F_Md) (N := 18) hx hb hts in_Md hown hK hP 0 rfl rfl 12 (by decide) (hts _ w_292) (fun _ h9 => h9) rfl d_Md_meets_231 ?_
          refine lv_lconst (v := 0) hx hb d_Md_meets_234 (by decide) ?_
          refine rf_lcmp_le (tgt := 243) hx hb d_Md_meets_235 d_Md_meets_236 (by decide) (fun c_11 => ?_) (fun c_11 => ?_)
          · refine lv_iconst (v := 0) hx hb d_Md_meets_243 (by decide) ?_
            exact W.zret (v := 0) (ty := .boolean) hx hb hr rfl (fun t ht hW => ⟨⟨_, (), rfl, (rf_F (fun h => (Int64.not_lt.mpr c_11) h.2)), by rw [ht]; exact hP, hD⟩, hS.F ht⟩) hS.2.2 d_Md_meets_244
          · refine lv_iconst (v := 1) hx hb d_Md_meets_239 (by decide) ?_
            refine lv_goto (tgt := 244) hx hb d_Md_meets_240 (by decide) ?_
            exact W.zret (v := 1) (ty := .boolean) hx hb hr rfl (fun t ht hW => ⟨⟨_, (), rfl, (rf_T ⟨(fun h => (Int64.not_lt.mpr c_7) (h.mpr (Int64.not_le.mp c_8))), (Int64.not_le.mp c_11)⟩), by rw [ht]; exact hP, hD⟩, hS.F ht⟩) hS.2.2 d_Md_meets_244
      · refine lv_iconst (v := 1) hx hb d_Md_meets_208 (by decide) ?_
        refine lv_goto (tgt := 213) hx hb d_Md_meets_209 (by decide) ?_
        refine lv_aload_n hx hb d_Md_meets_213 rfl (lv_at hl 0 rfl) ?_
        refine va_get (D := D) (ci := 4) (v := .long (m_b (f1 k, f2 k, f3 k, f4 k) (ex, ey, dx, dy))) (C := "RayFieldModel") (T := F_Md) (N := 18) hx hb hts in_Md hown hK hP 0 rfl rfl 16 (by decide) (hts _ w_296) (fun _ h9 => h9) rfl d_Md_meets_214 ?_
        refine lv_lconst (v := 0) hx hb d_Md_meets_217 (by decide) ?_
        refine rf_lcmp_ge (tgt := 226) hx hb d_Md_meets_218 d_Md_meets_219 (by decide) (fun c_12 => ?_) (fun c_12 => ?_)
        · refine lv_iconst (v := 0) hx hb d_Md_meets_226 (by decide) ?_
          refine lv_icmp_eq (tgt := 243) hx hb d_Md_meets_227 (by decide) (fun c_13 => absurd c_13 (by decide)) (fun c_13 => ?_)
          refine lv_aload_n hx hb d_Md_meets_230 rfl (lv_at hl 0 rfl) ?_
          refine va_get (D := D) (ci := 4) (v := .long (k_up (f1 k, f2 k, f3 k, f4 k) (ex, ey, dx, dy))) (C := "RayFieldModel") (T := F_Md) (N := 18) hx hb hts in_Md hown hK hP 0 rfl rfl 12 (by decide) (hts _ w_292) (fun _ h9 => h9) rfl d_Md_meets_231 ?_
          refine lv_lconst (v := 0) hx hb d_Md_meets_234 (by decide) ?_
          refine rf_lcmp_le (tgt := 243) hx hb d_Md_meets_235 d_Md_meets_236 (by decide) (fun c_14 => ?_) (fun c_14 => ?_)
          · refine lv_iconst (v := 0) hx hb d_Md_meets_243 (by decide) ?_
            exact W.zret (v := 0) (ty := .boolean) hx hb hr rfl (fun t ht hW => ⟨⟨_, (), rfl, (rf_F (fun h => (Int64.not_lt.mpr c_14) h.2)), by rw [ht]; exact hP, hD⟩, hS.F ht⟩) hS.2.2 d_Md_meets_244
          · refine lv_iconst (v := 1) hx hb d_Md_meets_239 (by decide) ?_
            refine lv_goto (tgt := 244) hx hb d_Md_meets_240 (by decide) ?_
            exact W.zret (v := 1) (ty := .boolean) hx hb hr rfl (fun t ht hW => ⟨⟨_, (), rfl, (rf_T ⟨(fun h => (Int64.not_lt.mpr c_12) (h.mp (Int64.not_le.mp c_7))), (Int64.not_le.mp c_14)⟩), by rw [ht]; exact hP, hD⟩, hS.F ht⟩) hS.2.2 d_Md_meets_244
        · refine lv_iconst (v := 1) hx hb d_Md_meets_222 (by decide) ?_
          refine lv_goto (tgt := 227) hx hb d_Md_meets_223 (by decide) ?_
          refine lv_icmp_eq (tgt := 243) hx hb d_Md_meets_227 (by decide) (fun c_15 => ?_) (fun c_15 => absurd rfl c_15)
          refine lv_iconst (v := 0) hx hb d_Md_meets_243 (by decide) ?_
          exact W.zret (v := 0) (ty := .boolean) hx hb hr rfl (fun t ht hW => ⟨⟨_, (), rfl, (rf_F (fun h => h.1 ⟨fun _ => (Int64.not_le.mp c_12), fun _ => (Int64.not_le.mp c_7)⟩)), by rw [ht]; exact hP, hD⟩, hS.F ht⟩) hS.2.2 d_Md_meets_244
    · refine lv_aload_n hx hb d_Md_meets_172 rfl (lv_at hl 0 rfl) ?_
      refine va_get (D := D) (ci := 4) (v := .long (m_q (f1 k, f2 k, f3 k, f4 k) (ex, ey, dx, dy))) (C := "RayFieldModel") (T := F_Md) (N := 18) hx hb hts in_Md hown hK hP 0 rfl rfl 13 (by decide) (hts _ w_293) (fun _ h9 => h9) rfl d_Md_meets_173 ?_
      refine lv_lconst (v := 0) hx hb d_Md_meets_176 (by decide) ?_
      refine rf_lcmp_ge (tgt := 199) hx hb d_Md_meets_177 d_Md_meets_178 (by decide) (fun c_16 => ?_) (fun c_16 => ?_)
      · refine J _ _ ⟨?_, ?_, hS⟩
        · rw [show k_up (f1 k, f2 k, f3 k, f4 k) (ex, ey, dx, dy) = k_p0 (f1 k, f2 k, f3 k, f4 k) (ex, ey, dx, dy) from if_neg (Int64.not_lt.mpr c_16), show k_dn (f1 k, f2 k, f3 k, f4 k) (ex, ey, dx, dy) = m_q (f1 k, f2 k, f3 k, f4 k) (ex, ey, dx, dy) from if_neg (Int64.not_lt.mpr c_16)]; exact hP
        · rw [show k_up (f1 k, f2 k, f3 k, f4 k) (ex, ey, dx, dy) = k_p0 (f1 k, f2 k, f3 k, f4 k) (ex, ey, dx, dy) from if_neg (Int64.not_lt.mpr c_16), show k_dn (f1 k, f2 k, f3 k, f4 k) (ex, ey, dx, dy) = m_q (f1 k, f2 k, f3 k, f4 k) (ex, ey, dx, dy) from if_neg (Int64.not_lt.mpr c_16)]; exact hD
      · refine lv_aload_n hx hb d_Md_meets_181 rfl (lv_at hl 0 rfl) ?_
        refine lv_aload_n hx hb d_Md_meets_182 rfl (lv_at hl 0 rfl) ?_
        refine va_get (D := D) (ci := 4) (v := .long (k_p0 (f1 k, f2 k, f3 k, f4 k) (ex, ey, dx, dy))) (C := "RayFieldModel") (T := F_Md) (N := 18) hx hb hts in_Md hown hK hP 0 rfl rfl 12 (by decide) (hts _ w_292) (fun _ h9 => h9) rfl d_Md_meets_183 ?_
        refine lv_lneg hx hb d_Md_meets_186 ?_
        refine va_put (D := D) (ci := 4) (v := .long (-(k_p0 (f1 k, f2 k, f3 k, f4 k) (ex, ey, dx, dy)))) (ty := .long) (C := "RayFieldModel") (T := F_Md) (N := 18) hx hb hts in_Md t_Md tok_Md nn_Md hown hK hP hD hS 0 rfl rfl 12 (by decide) (hts _ w_292) (fun _ h9 => h9) rfl (by decide +kernel) rfl rfl (Nat.le_of_ble_eq_true rfl) d_Md_meets_187 (fun H locs hP hD hS => ?_)
        have hP : va_P D vwCl (y_7 y t0 t1 t2 t3 t4 t5 c0 c1 c2 c3 c4 c5 ma ha ex ey dx dy (-(k_p0 (f1 k, f2 k, f3 k, f4 k) (ex, ey, dx, dy))) (m_q (f1 k, f2 k, f3 k, f4 k) (ex, ey, dx, dy)) (k_ri (f1 k, f2 k, f3 k, f4 k) (ex, ey, dx, dy)) (m_a (f1 k, f2 k, f3 k, f4 k) (ex, ey, dx, dy)) (m_b (f1 k, f2 k, f3 k, f4 k) (ex, ey, dx, dy)) f0 f1 f2 f3 f4 f5) H := hP
        have hD : va_D A (y_7 y t0 t1 t2 t3 t4 t5 c0 c1 c2 c3 c4 c5 ma ha ex ey dx dy (-(k_p0 (f1 k, f2 k, f3 k, f4 k) (ex, ey, dx, dy))) (m_q (f1 k, f2 k, f3 k, f4 k) (ex, ey, dx, dy)) (k_ri (f1 k, f2 k, f3 k, f4 k) (ex, ey, dx, dy)) (m_a (f1 k, f2 k, f3 k, f4 k) (ex, ey, dx, dy)) (m_b (f1 k, f2 k, f3 k, f4 k) (ex, ey, dx, dy)) f0 f1 f2 f3 f4 f5) := hD
        refine lv_aload_n hx hb d_Md_meets_190 rfl (lv_at hl 0 rfl) ?_
        refine lv_aload_n hx hb d_Md_meets_191 rfl (lv_at hl 0 rfl) ?_
        refine va_get (D := D) (ci := 4) (v := .long (m_q (f1 k, f2 k, f3 k, f4 k) (ex, ey, dx, dy))) (C := "RayFieldModel") (T := F_Md) (N := 18) hx hb hts in_Md hown hK hP 0 rfl rfl 13 (by decide) (hts _ w_293) (fun _ h9 => h9) rfl d_Md_meets_192 ?_
        refine lv_lneg hx hb d_Md_meets_195 ?_
        refine va_put (D := D) (ci := 4) (v := .long (-(m_q (f1 k, f2 k, f3 k, f4 k) (ex, ey, dx, dy)))) (ty := .long) (C := "RayFieldModel") (T := F_Md) (N := 18) hx hb hts in_Md t_Md tok_Md nn_Md hown hK hP hD hS 0 rfl rfl 13 (by decide) (hts _ w_293) (fun _ h9 => h9) rfl (by decide +kernel) rfl rfl (Nat.le_of_ble_eq_true rfl) d_Md_meets_196 (fun H locs hP hD hS => ?_)
        have hP : va_P D vwCl (y_7 y t0 t1 t2 t3 t4 t5 c0 c1 c2 c3 c4 c5 ma ha ex ey dx dy (-(k_p0 (f1 k, f2 k, f3 k, f4 k) (ex, ey, dx, dy))) (-(m_q (f1 k, f2 k, f3 k, f4 k) (ex, ey, dx, dy))) (k_ri (f1 k, f2 k, f3 k, f4 k) (ex, ey, dx, dy)) (m_a (f1 k, f2 k, f3 k, f4 k) (ex, ey, dx, dy)) (m_b (f1 k, f2 k, f3 k, f4 k) (ex, ey, dx, dy)) f0 f1 f2 f3 f4 f5) H := hP
        have hD : va_D A (y_7 y t0 t1 t2 t3 t4 t5 c0 c1 c2 c3 c4 c5 ma ha ex ey dx dy (-(k_p0 (f1 k, f2 k, f3 k, f4 k) (ex, ey, dx, dy))) (-(m_q (f1 k, f2 k, f3 k, f4 k) (ex, ey, dx, dy))) (k_ri (f1 k, f2 k, f3 k, f4 k) (ex, ey, dx, dy)) (m_a (f1 k, f2 k, f3 k, f4 k) (ex, ey, dx, dy)) (m_b (f1 k, f2 k, f3 k, f4 k) (ex, ey, dx, dy)) f0 f1 f2 f3 f4 f5) := hD
        refine J _ _ ⟨?_, ?_, hS⟩
        · rw [show k_up (f1 k, f2 k, f3 k, f4 k) (ex, ey, dx, dy) = -(k_p0 (f1 k, f2 k, f3 k, f4 k) (ex, ey, dx, dy)) from if_pos (Int64.not_le.mp c_16), show k_dn (f1 k, f2 k, f3 k, f4 k) (ex, ey, dx, dy) = -(m_q (f1 k, f2 k, f3 k, f4 k) (ex, ey, dx, dy)) from if_pos (Int64.not_le.mp c_16)]; exact hP
        · rw [show k_up (f1 k, f2 k, f3 k, f4 k) (ex, ey, dx, dy) = -(k_p0 (f1 k, f2 k, f3 k, f4 k) (ex, ey, dx, dy)) from if_pos (Int64.not_le.mp c_16), show k_dn (f1 k, f2 k, f3 k, f4 k) (ex, ey, dx, dy) = -(m_q (f1 k, f2 k, f3 k, f4 k) (ex, ey, dx, dy)) from if_pos (Int64.not_le.mp c_16)]; exact hD
  · refine lv_aload_n hx hb d_Md_meets_154 rfl (lv_at hl 0 rfl) ?_
    refine lv_aload_n hx hb d_Md_meets_155 rfl (lv_at hl 0 rfl) ?_
    refine va_get (D := D) (ci := 4) (v := .long (k_p0 (f1 k, f2 k, f3 k, f4 k) (ex, ey, dx, dy))) (C := "RayFieldModel") (T := F_Md) (N := 18) hx hb hts in_Md hown hK hP 0 rfl rfl 12 (by decide) (hts _ w_292) (fun _ h9 => h9) rfl d_Md_meets_156 ?_
    refine lv_lconst (v := 0) hx hb d_Md_meets_159 (by decide) ?_
    refine rf_lcmp_ge (tgt := 168) hx hb d_Md_meets_160 d_Md_meets_161 (by decide) (fun c_17 => ?_) (fun c_17 => ?_)
    · refine lv_iconst (v := 0) hx hb d_Md_meets_168 (by decide) ?_
      refine va_put (D := D) (ci := 4) (v := .int 0) (ty := .boolean) (C := "RayFieldModel") (T := F_Md) (N := 18) hx hb hts in_Md t_Md tok_Md nn_Md hown hK hP hD hS 0 rfl rfl 14 (by decide) (hts _ w_294) (fun _ h9 => h9) rfl (by decide +kernel) rfl rfl (Nat.le_of_ble_eq_true rfl) d_Md_meets_169 (fun H locs hP hD hS => ?_)
      have hP : va_P D vwCl (y_7 y t0 t1 t2 t3 t4 t5 c0 c1 c2 c3 c4 c5 ma ha ex ey dx dy (k_p0 (f1 k, f2 k, f3 k, f4 k) (ex, ey, dx, dy)) (m_q (f1 k, f2 k, f3 k, f4 k) (ex, ey, dx, dy)) 0 (m_a (f1 k, f2 k, f3 k, f4 k) (ex, ey, dx, dy)) (m_b (f1 k, f2 k, f3 k, f4 k) (ex, ey, dx, dy)) f0 f1 f2 f3 f4 f5) H := hP
      have hD : va_D A (y_7 y t0 t1 t2 t3 t4 t5 c0 c1 c2 c3 c4 c5 ma ha ex ey dx dy (k_p0 (f1 k, f2 k, f3 k, f4 k) (ex, ey, dx, dy)) (m_q (f1 k, f2 k, f3 k, f4 k) (ex, ey, dx, dy)) 0 (m_a (f1 k, f2 k, f3 k, f4 k) (ex, ey, dx, dy)) (m_b (f1 k, f2 k, f3 k, f4 k) (ex, ey, dx, dy)) f0 f1 f2 f3 f4 f5) := hD
      refine J _ _ ⟨?_, ?_, hS⟩
      · rw [show k_ri (f1 k, f2 k, f3 k, f4 k) (ex, ey, dx, dy) = 0 from if_neg (Int64.not_lt.mpr c_17)]; exact hP
      · rw [show k_ri (f1 k, f2 k, f3 k, f4 k) (ex, ey, dx, dy) = 0 from if_neg (Int64.not_lt.mpr c_17)]; exact hD
    · refine lv_iconst (v := 1) hx hb d_Md_meets_164 (by decide) ?_
      refine lv_goto (tgt := 169) hx hb d_Md_meets_165 (by decide) ?_
      refine va_put (D := D) (ci := 4) (v := .int 1) (ty := .boolean) (C := "RayFieldModel") (T := F_Md) (N := 18) hx hb hts in_Md t_Md tok_Md nn_Md hown hK hP hD hS 0 rfl rfl 14 (by decide) (hts _ w_294) (fun _ h9 => h9) rfl (by decide +kernel) rfl rfl (Nat.le_of_ble_eq_true rfl) d_Md_meets_169 (fun H locs hP hD hS => ?_)
      have hP : va_P D vwCl (y_7 y t0 t1 t2 t3 t4 t5 c0 c1 c2 c3 c4 c5 ma ha ex ey dx dy (k_p0 (f1 k, f2 k, f3 k, f4 k) (ex, ey, dx, dy)) (m_q (f1 k, f2 k, f3 k, f4 k) (ex, ey, dx, dy)) 1 (m_a (f1 k, f2 k, f3 k, f4 k) (ex, ey, dx, dy)) (m_b (f1 k, f2 k, f3 k, f4 k) (ex, ey, dx, dy)) f0 f1 f2 f3 f4 f5) H := hP
      have hD : va_D A (y_7 y t0 t1 t2 t3 t4 t5 c0 c1 c2 c3 c4 c5 ma ha ex ey dx dy (k_p0 (f1 k, f2 k, f3 k, f4 k) (ex, ey, dx, dy)) (m_q (f1 k, f2 k, f3 k, f4 k) (ex, ey, dx, dy)) 1 (m_a (f1 k, f2 k, f3 k, f4 k) (ex, ey, dx, dy)) (m_b (f1 k, f2 k, f3 k, f4 k) (ex, ey, dx, dy)) f0 f1 f2 f3 f4 f5) := hD
      refine J _ _ ⟨?_, ?_, hS⟩
      · rw [show k_ri (f1 k, f2 k, f3 k, f4 k) (ex, ey, dx, dy) = 1 from if_pos (Int64.not_le.mp c_17)]; exact hP
      · rw [show k_ri (f1 k, f2 k, f3 k, f4 k) (ex, ey, dx, dy) = 1 from if_pos (Int64.not_le.mp c_17)]; exact hD
set_option maxHeartbeats 4000000 in
set_option maxRecDepth 100000 in
theorem c_Md_isAhead (l : Launch) (D : va_G) (y t0 t1 t2 t3 t4 t5 : Nat) (c0 c1 c2 c3 c4 c5 : ClassId) (ma ha ex ey dx dy : Int32) (ab be : Int64) (ri : Int32) (o1 o2 : Int64) (f0 f1 f2 f3 f4 f5 : Nat → Int32) (i j : Nat) (hi : i < 64) (hj : j < 64) (sz : Nat) : Met l y_Md_isAhead (.code y_Md_isAhead b_Md_isAhead 8 (some (.boolean)) :: BIG) { frames := 2, cells := 0, slots := 0, locals := 80 } (rf_Pc D (y_t c0 c1 c2 c3 c4 c5) [.ref y, .int (nI i), .int (nI j)] (fun h => h.size = sz ∧ va_P D vwCl (y_7 y t0 t1 t2 t3 t4 t5 c0 c1 c2 c3 c4 c5 ma ha ex ey dx dy ab be ri o1 o2 f0 f1 f2 f3 f4 f5) h ∧ va_D (fun _ => True) (y_7 y t0 t1 t2 t3 t4 t5 c0 c1 c2 c3 c4 c5 ma ha ex ey dx dy ab be ri o1 o2 f0 f1 f2 f3 f4 f5))) (va_Qi (S := Unit) (fun r _ => rf_tf r (k_ah (f1 i, f2 i, f3 i, f4 i) (f1 j, f2 j, f3 j, f4 j) (ex, ey, dx, dy) i j)) (fun u t => va_P D vwCl (y_7 y t0 t1 t2 t3 t4 t5 c0 c1 c2 c3 c4 c5 ma ha ex ey dx dy (k_up (f1 j, f2 j, f3 j, f4 j) (ex, ey, dx, dy)) (k_dn (f1 j, f2 j, f3 j, f4 j) (ex, ey, dx, dy)) (k_ri (f1 j, f2 j, f3 j, f4 j) (ex, ey, dx, dy)) (m_a (f1 j, f2 j, f3 j, f4 j) (ex, ey, dx, dy)) (m_b (f1 j, f2 j, f3 j, f4 j) (ex, ey, dx, dy)) f0 f1 f2 f3 f4 f5) t.heap ∧ va_D (va_A (y_7 y t0 t1 t2 t3 t4 t5 c0 c1 c2 c3 c4 c5 ma ha ex ey dx dy ab be ri o1 o2 f0 f1 f2 f3 f4 f5) sz) (y_7 y t0 t1 t2 t3 t4 t5 c0 c1 c2 c3 c4 c5 ma ha ex ey dx dy (k_up (f1 j, f2 j, f3 j, f4 j) (ex, ey, dx, dy)) (k_dn (f1 j, f2 j, f3 j, f4 j) (ex, ey, dx, dy)) (k_ri (f1 j, f2 j, f3 j, f4 j) (ex, ey, dx, dy)) (m_a (f1 j, f2 j, f3 j, f4 j) (ex, ey, dx, dy)) (m_b (f1 j, f2 j, f3 j, f4 j) (ex, ey, dx, dy)) f0 f1 f2 f3 f4 f5)) (va_A (y_7 y t0 t1 t2 t3 t4 t5 c0 c1 c2 c3 c4 c5 ma ha ex ey dx dy ab be ri o1 o2 f0 f1 f2 f3 f4 f5) sz)) 0 0 (va_A (y_7 y t0 t1 t2 t3 t4 t5 c0 c1 c2 c3 c4 c5 ma ha ex ey dx dy ab be ri o1 o2 f0 f1 f2 f3 f4 f5) sz) := by
  refine Met.ofW (cc := b_Md_isAhead) (maxL := 8) (ret := (some (.boolean))) (by decide) rfl ?_
  intro p e s m args below meth c s₁ B hml hv
  obtain ⟨rfl, hE, hP⟩ := hv
  have hx := B.exec
  have hb := B.bytes
  have hr := B.returns
  have hts : ∀ w ∈ BIG, w.before [.ref y, .int (nI i), .int (nI j)].toArray s = true := fun w h => atoms_spec (ws := .code y_Md_isAhead b_Md_isAhead 8 (some (.boolean)) :: BIG) B.pre w (List.mem_cons_of_mem _ h)
  have hown : s.vm.findClass "RayFieldModel" = some m.cls := findClass_of_methodNamed B.named
  have hlocks := B.notSynchronized
  have hK := hE.2
  have S0 : CallFix p m c b_Md_isAhead 8 s [.ref y, .int (nI i), .int (nI j)].toArray BIG "RayFieldModel" := ⟨hx, hb, hml, hown, hts⟩
  have hl := lv_entry ([.ref y, .int (nI i), .int (nI j)]) (n := 8) (Nat.le_of_ble_eq_true rfl)
  rw [lg_entry_eq]
  generalize (lg_sl ([.ref y, .int (nI i), .int (nI j)]) ++ List.replicate (8 - (lg_sl ([.ref y, .int (nI i), .int (nI j)])).length) Slot.unset).toArray = ls at hl ⊢
  have hl : lv_has ls 8 [(0, .ref y), (1, .int (nI i)), (2, .int (nI j))] := hl
  obtain ⟨hsz, hP, hD0⟩ := hP
  subst hsz
  have hD := hD0.self (sz := s.heap.size)
  generalize hAe : va_A (y_7 y t0 t1 t2 t3 t4 t5 c0 c1 c2 c3 c4 c5 ma ha ex ey dx dy ab be ri o1 o2 f0 f1 f2 f3 f4 f5) s.heap.size = A at hD ⊢
  have hA : ∀ q : Nat, s.heap.size ≤ q → A q := fun q h => by rw [← hAe]; exact Or.inr h
  obtain ⟨H, hH⟩ : ∃ H : Heap, H = s.heap := ⟨_, rfl⟩
  refine rf_heap hH ?_
  have hS : va_S A s.heap H [] := by rw [hH]; exact va_S.rf
  have hP : va_P D vwCl (y_7 y t0 t1 t2 t3 t4 t5 c0 c1 c2 c3 c4 c5 ma ha ex ey dx dy ab be ri o1 o2 f0 f1 f2 f3 f4 f5) H := by rw [hH]; exact hP
  refine lv_aload_n hx hb d_Md_isAhead_0 rfl (lv_at hl 0 rfl) ?_
  refine lv_iload_n hx hb d_Md_isAhead_1 rfl (lv_at hl 1 rfl) ?_
  have hFc := rf_freeW hD hS hA
  refine va_calli (rf_runV (As := [.int (nI i)]) (rest := []) S0 ml_Md_94 (c_Md_meets l D y t0 t1 t2 t3 t4 t5 c0 c1 c2 c3 c4 c5 ma ha ex ey dx dy ab be ri o1 o2 f0 f1 f2 f3 f4 f5 i hi H.size) hE (va_recv hK hP (ci := 4) (q0 := 0) rfl rfl) ⟨rfl, hP, hD.weaken (fun _ _ _ _ => trivial)⟩ ⟨rfl, rfl, Nat.le_of_ble_eq_true rfl, Nat.le_of_ble_eq_true rfl⟩ rfl hl.1 rfl (Nat.le_of_ble_eq_true rfl) d_Md_isAhead_2 ⟨Nat.zero_le _, Nat.zero_le _⟩) hS (fun q _ h => hFc q h) hFc (fun r_1 u t H1 locs ht hvm hm_2 hB hz1 hk1 hS => ?_)
  obtain ⟨hP, hD1⟩ := hB
  rw [ht] at hP
  have hD := hD1.weaken (fun k q _ h => hFc q.1 h)
  generalize H1 = H at hP hS ⊢
  have hP : va_P D vwCl (y_7 y t0 t1 t2 t3 t4 t5 c0 c1 c2 c3 c4 c5 ma ha ex ey dx dy (k_up (f1 i, f2 i, f3 i, f4 i) (ex, ey, dx, dy)) (k_dn (f1 i, f2 i, f3 i, f4 i) (ex, ey, dx, dy)) (k_ri (f1 i, f2 i, f3 i, f4 i) (ex, ey, dx, dy)) (m_a (f1 i, f2 i, f3 i, f4 i) (ex, ey, dx, dy)) (m_b (f1 i, f2 i, f3 i, f4 i) (ex, ey, dx, dy)) f0 f1 f2 f3 f4 f5) H := hP
  have hD : va_D A (y_7 y t0 t1 t2 t3 t4 t5 c0 c1 c2 c3 c4 c5 ma ha ex ey dx dy (k_up (f1 i, f2 i, f3 i, f4 i) (ex, ey, dx, dy)) (k_dn (f1 i, f2 i, f3 i, f4 i) (ex, ey, dx, dy)) (k_ri (f1 i, f2 i, f3 i, f4 i) (ex, ey, dx, dy)) (m_a (f1 i, f2 i, f3 i, f4 i) (ex, ey, dx, dy)) (m_b (f1 i, f2 i, f3 i, f4 i) (ex, ey, dx, dy)) f0 f1 f2 f3 f4 f5) := hD
  refine lv_istore_n (lv' := [(3, .int r_1), (0, .ref y), (1, .int (nI i)), (2, .int (nI j))]) hx hb d_Md_isAhead_5 rfl hl (by decide) rfl (fun ls hl => ?_)
  refine lv_aload_n hx hb d_Md_isAhead_6 rfl (lv_at hl 1 rfl) ?_
  refine va_get (D := D) (ci := 4) (v := .long (k_up (f1 i, f2 i, f3 i, f4 i) (ex, ey, dx, dy))) (C := "RayFieldModel") (T := F_Md) (N := 18) hx hb hts in_Md hown hK hP 0 rfl rfl 12 (by decide) (hts _ w_292) (fun _ h9 => h9) rfl d_Md_isAhead_7 ?_
  refine lv_lstore (lv' := [(4, .long (k_up (f1 i, f2 i, f3 i, f4 i) (ex, ey, dx, dy))), (3, .int r_1), (0, .ref y), (1, .int (nI i)), (2, .int (nI j))]) hx hb d_Md_isAhead_10 hl (by decide) rfl (fun ls hl => ?_)
  refine lv_aload_n hx hb d_Md_isAhead_12 rfl (lv_at hl 2 rfl) ?_
  refine va_get (D := D) (ci := 4) (v := .long (k_dn (f1 i, f2 i, f3 i, f4 i) (ex, ey, dx, dy))) (C := "RayFieldModel") (T := F_Md) (N := 18) hx hb hts in_Md hown hK hP 0 rfl rfl 13 (by decide) (hts _ w_293) (fun _ h9 => h9) rfl d_Md_isAhead_13 ?_
  refine lv_lstore (lv' := [(6, .long (k_dn (f1 i, f2 i, f3 i, f4 i) (ex, ey, dx, dy))), (4, .long (k_up (f1 i, f2 i, f3 i, f4 i) (ex, ey, dx, dy))), (3, .int r_1), (0, .ref y), (1, .int (nI i)), (2, .int (nI j))]) hx hb d_Md_isAhead_16 hl (by decide) rfl (fun ls hl => ?_)
  refine lv_aload_n hx hb d_Md_isAhead_18 rfl (lv_at hl 3 rfl) ?_
  refine lv_iload_n hx hb d_Md_isAhead_19 rfl (lv_at hl 5 rfl) ?_
  have hFc := rf_freeW hD hS hA
  refine va_calli (rf_runV (As := [.int (nI j)]) (rest := []) S0 ml_Md_94 (c_Md_meets l D y t0 t1 t2 t3 t4 t5 c0 c1 c2 c3 c4 c5 ma ha ex ey dx dy (k_up (f1 i, f2 i, f3 i, f4 i) (ex, ey, dx, dy)) (k_dn (f1 i, f2 i, f3 i, f4 i) (ex, ey, dx, dy)) (k_ri (f1 i, f2 i, f3 i, f4 i) (ex, ey, dx, dy)) (m_a (f1 i, f2 i, f3 i, f4 i) (ex, ey, dx, dy)) (m_b (f1 i, f2 i, f3 i, f4 i) (ex, ey, dx, dy)) f0 f1 f2 f3 f4 f5 j hj H.size) hE (va_recv hK hP (ci := 4) (q0 := 0) rfl rfl) ⟨rfl, hP, hD.weaken (fun _ _ _ _ => trivial)⟩ ⟨rfl, rfl, Nat.le_of_ble_eq_true rfl, Nat.le_of_ble_eq_true rfl⟩ rfl hl.1 rfl (Nat.le_of_ble_eq_true rfl) d_Md_isAhead_20 ⟨Nat.zero_le _, Nat.zero_le _⟩) hS (fun q _ h => hFc q h) hFc (fun r_3 u t H1 locs ht hvm hm_4 hB hz1 hk1 hS => ?_)
  obtain ⟨hP, hD1⟩ := hB
  rw [ht] at hP
  have hD := hD1.weaken (fun k q _ h => hFc q.1 h)
  generalize H1 = H at hP hS ⊢
  have hP : va_P D vwCl (y_7 y t0 t1 t2 t3 t4 t5 c0 c1 c2 c3 c4 c5 ma ha ex ey dx dy (k_up (f1 j, f2 j, f3 j, f4 j) (ex, ey, dx, dy)) (k_dn (f1 j, f2 j, f3 j, f4 j) (ex, ey, dx, dy)) (k_ri (f1 j, f2 j, f3 j, f4 j) (ex, ey, dx, dy)) (m_a (f1 j, f2 j, f3 j, f4 j) (ex, ey, dx, dy)) (m_b (f1 j, f2 j, f3 j, f4 j) (ex, ey, dx, dy)) f0 f1 f2 f3 f4 f5) H := hP
  have hD : va_D A (y_7 y t0 t1 t2 t3 t4 t5 c0 c1 c2 c3 c4 c5 ma ha ex ey dx dy (k_up (f1 j, f2 j, f3 j, f4 j) (ex, ey, dx, dy)) (k_dn (f1 j, f2 j, f3 j, f4 j) (ex, ey, dx, dy)) (k_ri (f1 j, f2 j, f3 j, f4 j) (ex, ey, dx, dy)) (m_a (f1 j, f2 j, f3 j, f4 j) (ex, ey, dx, dy)) (m_b (f1 j, f2 j, f3 j, f4 j) (ex, ey, dx, dy)) f0 f1 f2 f3 f4 f5) := hD
  refine lv_istore_n (lv' := [(3, .int r_3), (6, .long (k_dn (f1 i, f2 i, f3 i, f4 i) (ex, ey, dx, dy))), (4, .long (k_up (f1 i, f2 i, f3 i, f4 i) (ex, ey, dx, dy))), (0, .ref y), (1, .int (nI i)), (2, .int (nI j))]) hx hb d_Md_isAhead_23 rfl hl (by decide) rfl (fun ls hl => ?_)
  refine lv_lload hx hb d_Md_isAhead_24 (lv_at hl 2 rfl) ?_
  refine lv_aload_n hx hb d_Md_isAhead_26 rfl (lv_at hl 3 rfl) ?_
  refine va_get (D := D) (ci := 4) (v := .long (k_dn (f1 j, f2 j, f3 j, f4 j) (ex, ey, dx, dy))) (C := "RayFieldModel") (T := F_Md) (N := 18) hx hb hts in_Md hown hK hP 0 rfl rfl 13 (by decide) (hts _ w_293) (fun _ h9 => h9) rfl d_Md_isAhead_27 ?_
  refine lv_lmul hx hb d_Md_isAhead_30 ?_
  refine lv_aload_n hx hb d_Md_isAhead_31 rfl (lv_at hl 3 rfl) ?_
  refine va_get (D := D) (ci := 4) (v := .long (k_up (f1 j, f2 j, f3 j, f4 j) (ex, ey, dx, dy))) (C := "RayFieldModel") (T := F_Md) (N := 18) hx hb hts in_Md hown hK hP 0 rfl rfl 12 (by decide) (hts _ w_292) (fun _ h9 => h9) rfl d_Md_isAhead_32 ?_
  refine lv_lload hx hb d_Md_isAhead_35 (lv_at hl 1 rfl) ?_
  refine lv_lmul hx hb d_Md_isAhead_37 ?_
  refine rf_lcmp_lt (tgt := 65) hx hb d_Md_isAhead_38 d_Md_isAhead_39 (by decide) (fun c_5 => ?_) (fun c_5 => ?_)
  · refine lv_iconst (v := 1) hx hb d_Md_isAhead_65 (by decide) ?_
    refine lv_goto (tgt := 70) hx hb d_Md_isAhead_66 (by decide) ?_
    exact W.zret (v := 1) (ty := .boolean) hx hb hr rfl (fun t ht hW => ⟨⟨_, (), rfl, (rf_T (Or.inl c_5)), by rw [ht]; exact hP, hD⟩, hS.F ht⟩) hS.2.2 d_Md_isAhead_70
  · refine lv_lload hx hb d_Md_isAhead_42 (lv_at hl 2 rfl) ?_
    refine lv_aload_n hx hb d_Md_isAhead_44 rfl (lv_at hl 3 rfl) ?_
    refine va_get (D := D) (ci := 4) (v := .long (k_dn (f1 j, f2 j, f3 j, f4 j) (ex, ey, dx, dy))) (C := "RayFieldModel") (T := F_Md) (N := 18) hx hb hts in_Md hown hK hP 0 rfl rfl 13 (by decide) (hts _ w_293) (fun _ h9 => h9) rfl d_Md_isAhead_45 ?_
    refine lv_lmul hx hb d_Md_isAhead_48 ?_
    refine lv_aload_n hx hb d_Md_isAhead_49 rfl (lv_at hl 3 rfl) ?_
    refine va_get (D := D) (ci := 4) (v := .long (k_up (f1 j, f2 j, f3 j, f4 j) (ex, ey, dx, dy))) (C := "RayFieldModel") (T := F_Md) (N := 18) hx hb hts in_Md hown hK hP 0 rfl rfl 12 (by decide) (hts _ w_292) (fun _ h9 => h9) rfl d_Md_isAhead_50 ?_
    refine lv_lload hx hb d_Md_isAhead_53 (lv_at hl 1 rfl) ?_
    refine lv_lmul hx hb d_Md_isAhead_55 ?_
    refine rf_lcmp_ne (tgt := 69) hx hb d_Md_isAhead_56 d_Md_isAhead_57 (by decide) (fun c_6 => ?_) (fun c_6 => ?_)
    · refine lv_iconst (v := 0) hx hb d_Md_isAhead_69 (by decide) ?_
      exact W.zret (v := 0) (ty := .boolean) hx hb hr rfl (fun t ht hW => ⟨⟨_, (), rfl, (rf_F (fun h => h.elim c_5 (fun h => c_6 h.1))), by rw [ht]; exact hP, hD⟩, hS.F ht⟩) hS.2.2 d_Md_isAhead_70
    · refine lv_iload_n hx hb d_Md_isAhead_60 rfl (lv_at hl 4 rfl) ?_
      refine lv_iload_n hx hb d_Md_isAhead_61 rfl (lv_at hl 5 rfl) ?_
      refine lv_icmp_ge (tgt := 69) hx hb d_Md_isAhead_62 (by decide) (fun c_7 => ?_) (fun c_7 => ?_)
      · refine lv_iconst (v := 0) hx hb d_Md_isAhead_69 (by decide) ?_
        exact W.zret (v := 0) (ty := .boolean) hx hb hr rfl (fun t ht hW => ⟨⟨_, (), rfl, (rf_F (fun h => h.elim c_5 (fun h => (Int32.not_lt.mpr c_7) h.2))), by rw [ht]; exact hP, hD⟩, hS.F ht⟩) hS.2.2 d_Md_isAhead_70
      · refine lv_iconst (v := 1) hx hb d_Md_isAhead_65 (by decide) ?_
        refine lv_goto (tgt := 70) hx hb d_Md_isAhead_66 (by decide) ?_
        exact W.zret (v := 1) (ty := .boolean) hx hb hr rfl (fun t ht hW => ⟨⟨_, (), rfl, (rf_T (Or.inr ⟨c_6, (Int32.not_le.mp c_7)⟩)), by rw [ht]; exact hP, hD⟩, hS.F ht⟩) hS.2.2 d_Md_isAhead_70
end
section
set_option maxHeartbeats 4000000 in
set_option maxRecDepth 100000 in
theorem c_Md_gather (l : Launch) (D : va_G) (y t0 t1 t2 t3 t4 t5 : Nat) (c0 c1 c2 c3 c4 c5 : ClassId) (ma ha ex ey dx dy : Int32) (ab be : Int64) (ri : Int32) (o1 o2 : Int64) (f0 f1 f2 f3 f4 f5 : Nat → Int32) (wl : Nat → Option Q4) (hY : rf_YF wl f0 f1 f2 f3 f4) (sz : Nat) : Met l y_Md_gather (.code y_Md_gather b_Md_gather 4 (some (.int)) :: BIG) { frames := 3, cells := 0, slots := 0, locals := 120 } (rf_Pc D (y_t c0 c1 c2 c3 c4 c5) [.ref y] (fun h => h.size = sz ∧ va_P D vwCl (y_7 y t0 t1 t2 t3 t4 t5 c0 c1 c2 c3 c4 c5 ma ha ex ey dx dy ab be ri o1 o2 f0 f1 f2 f3 f4 f5) h ∧ va_D (fun _ => True) (y_7 y t0 t1 t2 t3 t4 t5 c0 c1 c2 c3 c4 c5 ma ha ex ey dx dy ab be ri o1 o2 f0 f1 f2 f3 f4 f5))) (va_Qi (S := Nat × (Nat → Nat) × Int64 × Int64 × Int32 × Int64 × Int64 × (Nat → Int32)) (fun r u => r = nI u.1 ∧ u.1 ≤ 64 ∧ (ha = 0 → u.1 = 0) ∧ (¬ ha = 0 → g_ok (rf_kmt wl (ex, ey, dx, dy)) (rf_knr wl (ex, ey, dx, dy)) 64 u.1 u.2.1) ∧ (∀ j, j < u.1 → u.2.2.2.2.2.2.2 j = nI (u.2.1 j))) (fun u t => va_P D vwCl (y_7 y t0 t1 t2 t3 t4 t5 c0 c1 c2 c3 c4 c5 ma ha ex ey dx dy u.2.2.1 u.2.2.2.1 u.2.2.2.2.1 u.2.2.2.2.2.1 u.2.2.2.2.2.2.1 f0 f1 f2 f3 f4 u.2.2.2.2.2.2.2) t.heap ∧ va_D (va_A (y_7 y t0 t1 t2 t3 t4 t5 c0 c1 c2 c3 c4 c5 ma ha ex ey dx dy ab be ri o1 o2 f0 f1 f2 f3 f4 f5) sz) (y_7 y t0 t1 t2 t3 t4 t5 c0 c1 c2 c3 c4 c5 ma ha ex ey dx dy u.2.2.1 u.2.2.2.1 u.2.2.2.2.1 u.2.2.2.2.2.1 u.2.2.2.2.2.2.1 f0 f1 f2 f3 f4 u.2.2.2.2.2.2.2)) (va_A (y_7 y t0 t1 t2 t3 t4 t5 c0 c1 c2 c3 c4 c5 ma ha ex ey dx dy ab be ri o1 o2 f0 f1 f2 f3 f4 f5) sz)) 0 0 (va_A (y_7 y t0 t1 t2 t3 t4 t5 c0 c1 c2 c3 c4 c5 ma ha ex ey dx dy ab be ri o1 o2 f0 f1 f2 f3 f4 f5) sz) := by
  refine Met.ofW (cc := b_Md_gather) (maxL := 4) (ret := (some (.int))) (by decide) rfl ?_
  intro p e s m args below meth c s₁ B hml hv
  obtain ⟨rfl, hE, hP⟩ := hv
  have hx := B.exec
  have hb := B.bytes
  have hr := B.returns
  have hts : ∀ w ∈ BIG, w.before [.ref y].toArray s = true := fun w h => atoms_spec (ws := .code y_Md_gather b_Md_gather 4 (some (.int)) :: BIG) B.pre w (List.mem_cons_of_mem _ h)
  have hown : s.vm.findClass "RayFieldModel" = some m.cls := findClass_of_methodNamed B.named
  have hlocks := B.notSynchronized
  have hK := hE.2
  have S0 : CallFix p m c b_Md_gather 4 s [.ref y].toArray BIG "RayFieldModel" := ⟨hx, hb, hml, hown, hts⟩
  have hl := lv_entry ([.ref y]) (n := 4) (Nat.le_of_ble_eq_true rfl)
  rw [lg_entry_eq]
  generalize (lg_sl ([.ref y]) ++ List.replicate (4 - (lg_sl ([.ref y])).length) Slot.unset).toArray = ls at hl ⊢
  have hl : lv_has ls 4 [(0, .ref y)] := hl
  obtain ⟨hsz, hP, hD0⟩ := hP
  subst hsz
  have hD := hD0.self (sz := s.heap.size)
  generalize hAe : va_A (y_7 y t0 t1 t2 t3 t4 t5 c0 c1 c2 c3 c4 c5 ma ha ex ey dx dy ab be ri o1 o2 f0 f1 f2 f3 f4 f5) s.heap.size = A at hD ⊢
  have hA : ∀ q : Nat, s.heap.size ≤ q → A q := fun q h => by rw [← hAe]; exact Or.inr h
  obtain ⟨H, hH⟩ : ∃ H : Heap, H = s.heap := ⟨_, rfl⟩
  refine rf_heap hH ?_
  have hS : va_S A s.heap H [] := by rw [hH]; exact va_S.rf
  have hP : va_P D vwCl (y_7 y t0 t1 t2 t3 t4 t5 c0 c1 c2 c3 c4 c5 ma ha ex ey dx dy ab be ri o1 o2 f0 f1 f2 f3 f4 f5) H := by rw [hH]; exact hP
  refine lv_iconst (v := 0) hx hb d_Md_gather_0 (by decide) ?_
  refine rf_topi nI_0.symm ?_
  refine lv_istore_n (lv' := [(1, .int (nI 0)), (0, .ref y)]) hx hb d_Md_gather_1 rfl hl (by decide) rfl (fun ls hl => ?_)
  refine lv_iconst (v := 0) hx hb d_Md_gather_2 (by decide) ?_
  refine rf_topi nI_0.symm ?_
  refine lv_istore_n (lv' := [(2, .int (nI 0)), (1, .int (nI 0)), (0, .ref y)]) hx hb d_Md_gather_3 rfl hl (by decide) rfl (fun ls hl => ?_)
  by_cases hh : ha = 0
  · refine lv_iload_n hx hb d_Md_gather_4 rfl (lv_at hl 0 rfl) ?_
    refine lv_bipush (v := 64) hx hb d_Md_gather_5 (by decide) ?_
    refine rf_topi rfl ?_
    refine lv_icmp_ge (tgt := 92) hx hb d_Md_gather_7 (by decide) (fun c_1 => absurd c_1 (nI_ge (show 0 < 64 by decide) (by decide))) (fun c_1 => ?_)
    refine lv_aload_n hx hb d_Md_gather_10 rfl (lv_at hl 2 rfl) ?_
    refine va_get (D := D) (ci := 4) (v := .int ha) (C := "RayFieldModel") (T := F_Md) (N := 18) hx hb hts in_Md hown hK hP 0 rfl rfl 7 (by decide) (hts _ w_287) (fun _ h9 => h9) rfl d_Md_gather_11 ?_
    refine lv_if_eq (tgt := 92) hx hb d_Md_gather_14 (by decide) (fun c_2 => ?_) (fun c_2 => absurd hh c_2)
    refine lv_iload_n hx hb d_Md_gather_92 rfl (lv_at hl 1 rfl) ?_
    exact W.iret (v := nI 0) hx hb hr (fun t ht hW => ⟨⟨_, (0, fun _ => 0, ab, be, ri, o1, o2, f5), rfl, ⟨rfl, Nat.zero_le _, fun _ => rfl, fun h => absurd hh h, fun j hj => absurd hj (Nat.not_lt_zero _)⟩, by rw [ht]; exact hP, hD⟩, hS.F ht⟩) hS.2.2 d_Md_gather_93
  · refine rf_loop 4 64 (fun i ls H locs k1 k2 => ∃ (n : Nat) (g : Nat → Nat) (ab1 be1 : Int64) (ri1 : Int32) (p1 p2 : Int64) (f51 : Nat → Int32), lv_has ls 4 [(1, .int (nI n)), (2, .int (nI i)), (0, .ref y)] ∧ va_P D vwCl (y_7 y t0 t1 t2 t3 t4 t5 c0 c1 c2 c3 c4 c5 ma ha ex ey dx dy ab1 be1 ri1 p1 p2 f0 f1 f2 f3 f4 f51) H ∧ va_D A (y_7 y t0 t1 t2 t3 t4 t5 c0 c1 c2 c3 c4 c5 ma ha ex ey dx dy ab1 be1 ri1 p1 p2 f0 f1 f2 f3 f4 f51) ∧ va_S A s.heap H locs ∧ g_ok (rf_kmt wl (ex, ey, dx, dy)) (rf_knr wl (ex, ey, dx, dy)) i n g ∧ (∀ j, j < n → f51 j = nI (g j)) ∧ k1 = 0 ∧ k2 = 0) (fun ls H locs k1 k2 hI => ?_) (fun i ls H locs k1 k2 hi hI hk => ?_) 0 (Nat.zero_le _) ⟨0, fun _ => 0, ab, be, ri, o1, o2, f5, lv_sub hl [1, 0, 2] rfl, hP, hD, hS, rfl, fun j hj => absurd hj (Nat.not_lt_zero _), rfl, rfl⟩
    · obtain ⟨n, g, ab1, be1, ri1, p1, p2, f51, hl, hP, hD, hS, hg, hrow, hk1, hk2⟩ := hI
      subst k1
      subst k2
      have hnle := g_ok_le hg
      refine lv_iload_n hx hb d_Md_gather_4 rfl (lv_at hl 1 rfl) ?_
      refine lv_bipush (v := 64) hx hb d_Md_gather_5 (by decide) ?_
      refine rf_topi rfl ?_
      refine lv_icmp_ge (tgt := 92) hx hb d_Md_gather_7 (by decide) (fun c_3 => ?_) (fun c_3 => absurd (nI_le (Nat.le_refl _) (by decide)) c_3)
      refine lv_iload_n hx hb d_Md_gather_92 rfl (lv_at hl 0 rfl) ?_
      exact W.iret (v := nI n) hx hb hr (fun t ht hW => ⟨⟨_, (n, g, ab1, be1, ri1, p1, p2, f51), rfl, ⟨rfl, hnle, fun h => absurd h hh, fun _ => hg, hrow⟩, by rw [ht]; exact hP, hD⟩, hS.F ht⟩) hS.2.2 d_Md_gather_93
    · obtain ⟨n, g, ab1, be1, ri1, p1, p2, f51, hl, hP, hD, hS, hg, hrow, hk1, hk2⟩ := hI
      subst k1
      subst k2
      have hnle := g_ok_le hg
      refine lv_iload_n hx hb d_Md_gather_4 rfl (lv_at hl 1 rfl) ?_
      refine lv_bipush (v := 64) hx hb d_Md_gather_5 (by decide) ?_
      refine rf_topi rfl ?_
      refine lv_icmp_ge (tgt := 92) hx hb d_Md_gather_7 (by decide) (fun c_4 => absurd c_4 (nI_ge hi (by decide))) (fun c_4 => ?_)
      refine lv_aload_n hx hb d_Md_gather_10 rfl (lv_at hl 2 rfl) ?_
      refine va_get (D := D) (ci := 4) (v := .int ha) (C := "RayFieldModel") (T := F_Md) (N := 18) hx hb hts in_Md hown hK hP 0 rfl rfl 7 (by decide) (hts _ w_287) (fun _ h9 => h9) rfl d_Md_gather_11 ?_
      refine lv_if_eq (tgt := 92) hx hb d_Md_gather_14 (by decide) (fun c_5 => absurd c_5 hh) (fun c_5 => ?_)
      refine lv_aload_n hx hb d_Md_gather_17 rfl (lv_at hl 2 rfl) ?_
      refine va_get (D := D) (ci := 4) (v := .ref t0) (C := "RayFieldModel") (T := F_Md) (N := 18) hx hb hts in_Md hown hK hP 0 rfl rfl 1 (by decide) (hts _ w_281) (fun _ h9 => h9) rfl d_Md_gather_18 ?_
      refine lv_iload_n hx hb d_Md_gather_21 rfl (lv_at hl 1 rfl) ?_
      refine rf_zald hx hb hK hP 1 0 rfl rfl hi (by decide) d_Md_gather_22 ?_
      refine lv_if_eq (tgt := 86) hx hb d_Md_gather_23 (by decide) (fun c_6 => ?_) (fun c_6 => ?_)
      · refine lv_iinc (v := (nI (i + 1))) (lv' := [(2, .int (nI (i + 1))), (1, .int (nI n)), (0, .ref y)]) hx hb d_Md_gather_86 hl (k := 1) rfl (nI_1 i) (by decide) rfl (fun ls hl => ?_)
        refine lv_goto (tgt := 4) hx hb d_Md_gather_89 (by decide) ?_
        exact hk _ _ _ _ _ ⟨n, g, ab1, be1, ri1, p1, p2, f51, lv_sub hl [1, 0, 2] rfl, hP, hD, hS, Or.inl ⟨rf_kmt.no0 (hY.zero hi c_6), hg⟩, hrow, rfl, rfl⟩
      · refine lv_aload_n hx hb d_Md_gather_26 rfl (lv_at hl 2 rfl) ?_
        refine lv_iload_n hx hb d_Md_gather_27 rfl (lv_at hl 1 rfl) ?_
        have hFc := rf_freeW hD hS hA
        refine va_calli (rf_runV (As := [.int (nI i)]) (rest := []) S0 ml_Md_94 (c_Md_meets l D y t0 t1 t2 t3 t4 t5 c0 c1 c2 c3 c4 c5 ma ha ex ey dx dy ab1 be1 ri1 p1 p2 f0 f1 f2 f3 f4 f51 i hi H.size) hE (va_recv hK hP (ci := 4) (q0 := 0) rfl rfl) ⟨rfl, hP, hD.weaken (fun _ _ _ _ => trivial)⟩ ⟨rfl, rfl, Nat.le_of_ble_eq_true rfl, Nat.le_of_ble_eq_true rfl⟩ rfl hl.1 rfl (Nat.le_of_ble_eq_true rfl) d_Md_gather_28 ⟨Nat.zero_le _, Nat.zero_le _⟩) hS (fun q _ h => hFc q h) hFc (fun r_7 u t H1 locs ht hvm hm_8 hB hz1 hk1 hS => ?_)
        obtain ⟨hP, hD1⟩ := hB
        rw [ht] at hP
        have hD := hD1.weaken (fun k q _ h => hFc q.1 h)
        generalize H1 = H at hP hS ⊢
        have hP : va_P D vwCl (y_7 y t0 t1 t2 t3 t4 t5 c0 c1 c2 c3 c4 c5 ma ha ex ey dx dy (k_up (f1 i, f2 i, f3 i, f4 i) (ex, ey, dx, dy)) (k_dn (f1 i, f2 i, f3 i, f4 i) (ex, ey, dx, dy)) (k_ri (f1 i, f2 i, f3 i, f4 i) (ex, ey, dx, dy)) (m_a (f1 i, f2 i, f3 i, f4 i) (ex, ey, dx, dy)) (m_b (f1 i, f2 i, f3 i, f4 i) (ex, ey, dx, dy)) f0 f1 f2 f3 f4 f51) H := hP
        have hD : va_D A (y_7 y t0 t1 t2 t3 t4 t5 c0 c1 c2 c3 c4 c5 ma ha ex ey dx dy (k_up (f1 i, f2 i, f3 i, f4 i) (ex, ey, dx, dy)) (k_dn (f1 i, f2 i, f3 i, f4 i) (ex, ey, dx, dy)) (k_ri (f1 i, f2 i, f3 i, f4 i) (ex, ey, dx, dy)) (m_a (f1 i, f2 i, f3 i, f4 i) (ex, ey, dx, dy)) (m_b (f1 i, f2 i, f3 i, f4 i) (ex, ey, dx, dy)) f0 f1 f2 f3 f4 f51) := hD
        refine lv_if_eq (tgt := 86) hx hb d_Md_gather_31 (by decide) (fun c_9 => ?_) (fun c_9 => ?_)
        · refine lv_iinc (v := (nI (i + 1))) (lv' := [(2, .int (nI (i + 1))), (1, .int (nI n)), (0, .ref y)]) hx hb d_Md_gather_86 hl (k := 1) rfl (nI_1 i) (by decide) rfl (fun ls hl => ?_)
          refine lv_goto (tgt := 4) hx hb d_Md_gather_89 (by decide) ?_
          exact hk _ _ _ _ _ ⟨n, g, k_up (f1 i, f2 i, f3 i, f4 i) (ex, ey, dx, dy), k_dn (f1 i, f2 i, f3 i, f4 i) (ex, ey, dx, dy), k_ri (f1 i, f2 i, f3 i, f4 i) (ex, ey, dx, dy), m_a (f1 i, f2 i, f3 i, f4 i) (ex, ey, dx, dy), m_b (f1 i, f2 i, f3 i, f4 i) (ex, ey, dx, dy), f51, lv_sub hl [1, 0, 2] rfl, hP, hD, hS, Or.inl ⟨rf_kmt.no (hY.one hi c_6) (hm_8.f c_9), hg⟩, hrow, rfl, rfl⟩
        · refine lv_iload_n hx hb d_Md_gather_34 rfl (lv_at hl 0 rfl) ?_
          refine lv_istore_n (lv' := [(3, .int (nI n)), (1, .int (nI n)), (2, .int (nI i)), (0, .ref y)]) hx hb d_Md_gather_35 rfl hl (by decide) rfl (fun ls hl => ?_)
          have hwi := hY.one hi c_6
          have hmet := (hm_8.t c_9)
          refine rf_loopD 36 (fun a ls H locs => ∃ (ab2 be2 : Int64) (ri2 : Int32) (p3 p4 : Int64), lv_has ls 4 [(3, .int (nI a)), (1, .int (nI n)), (2, .int (nI i)), (0, .ref y)] ∧ va_P D vwCl (y_7 y t0 t1 t2 t3 t4 t5 c0 c1 c2 c3 c4 c5 ma ha ex ey dx dy ab2 be2 ri2 p3 p4 f0 f1 f2 f3 f4 (rf_shift f51 n a)) H ∧ va_D A (y_7 y t0 t1 t2 t3 t4 t5 c0 c1 c2 c3 c4 c5 ma ha ex ey dx dy ab2 be2 ri2 p3 p4 f0 f1 f2 f3 f4 (rf_shift f51 n a)) ∧ va_S A s.heap H locs ∧ a ≤ n ∧ (∀ j, a ≤ j → j < n → rf_knr wl (ex, ey, dx, dy) i (g j))) (fun ls H locs hI => ?_) (fun a ls H locs hI hk9 => ?_) n ⟨k_up (f1 i, f2 i, f3 i, f4 i) (ex, ey, dx, dy), k_dn (f1 i, f2 i, f3 i, f4 i) (ex, ey, dx, dy), k_ri (f1 i, f2 i, f3 i, f4 i) (ex, ey, dx, dy), m_a (f1 i, f2 i, f3 i, f4 i) (ex, ey, dx, dy), m_b (f1 i, f2 i, f3 i, f4 i) (ex, ey, dx, dy), lv_sub hl [0, 1, 2, 3] rfl, by rw [rf_shift_n]; exact hP, by rw [rf_shift_n]; exact hD, hS, Nat.le_refl n, fun j h1 h2 => absurd h2 (Nat.not_lt.mpr h1)⟩
          · obtain ⟨ab2, be2, ri2, p3, p4, hl, hP, hD, hS, hle, hJ⟩ := hI
            refine lv_iload_n hx hb d_Md_gather_36 rfl (lv_at hl 0 rfl) ?_
            refine lv_if_le (tgt := 76) hx hb d_Md_gather_37 (by decide) (fun c_10 => ?_) (fun c_10 => absurd (by decide) c_10)
            refine lv_aload_n hx hb d_Md_gather_76 rfl (lv_at hl 3 rfl) ?_
            refine va_get (D := D) (ci := 4) (v := .ref t5) (C := "RayFieldModel") (T := F_Md) (N := 18) hx hb hts in_Md hown hK hP 0 rfl rfl 17 (by decide) (hts _ w_297) (fun _ h9 => h9) rfl d_Md_gather_77 ?_
            refine lv_iload_n hx hb d_Md_gather_80 rfl (lv_at hl 0 rfl) ?_
            refine lv_iload_n hx hb d_Md_gather_81 rfl (lv_at hl 2 rfl) ?_
            refine rf_iast hx hb hK hP hD hS 6 5 rfl rfl (show 0 < 64 by omega) (by decide) d_Md_gather_82 (fun H locs hP hD hS => ?_)
            have hP : va_P D vwCl (y_7 y t0 t1 t2 t3 t4 t5 c0 c1 c2 c3 c4 c5 ma ha ex ey dx dy ab2 be2 ri2 p3 p4 f0 f1 f2 f3 f4 (rf_mins f51 (nI i) n 0)) H := by rw [← rf_shift_e f51 (nI i) n 0]; exact hP
            have hD : va_D A (y_7 y t0 t1 t2 t3 t4 t5 c0 c1 c2 c3 c4 c5 ma ha ex ey dx dy ab2 be2 ri2 p3 p4 f0 f1 f2 f3 f4 (rf_mins f51 (nI i) n 0)) := by rw [← rf_shift_e f51 (nI i) n 0]; exact hD
            refine lv_iinc (v := (nI (n + 1))) (lv' := [(1, .int (nI (n + 1))), (3, .int (nI 0)), (2, .int (nI i)), (0, .ref y)]) hx hb d_Md_gather_83 hl (k := 1) rfl (nI_1 n) (by decide) rfl (fun ls hl => ?_)
            refine lv_iinc (v := (nI (i + 1))) (lv' := [(2, .int (nI (i + 1))), (1, .int (nI (n + 1))), (3, .int (nI 0)), (0, .ref y)]) hx hb d_Md_gather_86 hl (k := 2) rfl (nI_1 i) (by decide) rfl (fun ls hl => ?_)
            refine lv_goto (tgt := 4) hx hb d_Md_gather_89 (by decide) ?_
            exact hk _ _ _ _ _ ⟨n + 1, g_ins g 0 i, ab2, be2, ri2, p3, p4, (rf_mins f51 (nI i) n 0), lv_sub hl [1, 0, 3] rfl, hP, hD, hS, Or.inr ⟨⟨_, hwi, hmet⟩, n, g, 0, hg, rfl, ⟨hle, hJ, fun h => absurd h (Nat.lt_irrefl 0)⟩, fun j _ => rfl⟩, rf_row_ins hrow hle, rfl, rfl⟩
          · obtain ⟨ab2, be2, ri2, p3, p4, hl, hP, hD, hS, hle, hJ⟩ := hI
            refine lv_iload_n hx hb d_Md_gather_36 rfl (lv_at hl 0 rfl) ?_
            refine lv_if_le (tgt := 76) hx hb d_Md_gather_37 (by decide) (fun c_11 => absurd c_11 (nI_nle (Nat.succ_pos a) (by omega))) (fun c_11 => ?_)
            refine lv_aload_n hx hb d_Md_gather_40 rfl (lv_at hl 3 rfl) ?_
            refine lv_iload_n hx hb d_Md_gather_41 rfl (lv_at hl 2 rfl) ?_
            refine lv_aload_n hx hb d_Md_gather_42 rfl (lv_at hl 3 rfl) ?_
            refine va_get (D := D) (ci := 4) (v := .ref t5) (C := "RayFieldModel") (T := F_Md) (N := 18) hx hb hts in_Md hown hK hP 0 rfl rfl 17 (by decide) (hts _ w_297) (fun _ h9 => h9) rfl d_Md_gather_43 ?_
            refine lv_iload_n hx hb d_Md_gather_46 rfl (lv_at hl 0 rfl) ?_
            refine lv_iconst (v := 1) hx hb d_Md_gather_47 (by decide) ?_
            refine lv_isub hx hb d_Md_gather_48 ?_
            refine rf_topi (nI_pred a) ?_
            refine rf_iald hx hb hK hP 6 5 rfl rfl (show a < 64 by omega) (by decide) d_Md_gather_49 ?_
            rw [rf_shift_at]
            rw [hrow a (by omega)]
            have hga := g_ok_in hg a (by omega)
            have hgl : g a < 64 := by have := hga.1; omega
            have hwa := hY.got hgl hga.2.choose_spec.1
            have hFc := rf_freeW hD hS hA
            refine va_calli (rf_runV (As := [.int (nI i), .int (nI (g a))]) (rest := []) S0 ml_Md_97 (c_Md_isAhead l D y t0 t1 t2 t3 t4 t5 c0 c1 c2 c3 c4 c5 ma ha ex ey dx dy ab2 be2 ri2 p3 p4 f0 f1 f2 f3 f4 (rf_shift f51 n (a + 1)) i (g a) hi hgl H.size) hE (va_recv hK hP (ci := 4) (q0 := 0) rfl rfl) ⟨rfl, hP, hD.weaken (fun _ _ _ _ => trivial)⟩ ⟨rfl, rfl, Nat.le_of_ble_eq_true rfl, Nat.le_of_ble_eq_true rfl⟩ rfl hl.1 rfl (Nat.le_of_ble_eq_true rfl) d_Md_gather_50 ⟨Nat.zero_le _, Nat.zero_le _⟩) hS (fun q _ h => hFc q h) hFc (fun r_12 u t H1 locs ht hvm hm_13 hB hz1 hk1 hS => ?_)
            obtain ⟨hP, hD1⟩ := hB
            rw [ht] at hP
            have hD := hD1.weaken (fun k q _ h => hFc q.1 h)
            generalize H1 = H at hP hS ⊢
            have hP : va_P D vwCl (y_7 y t0 t1 t2 t3 t4 t5 c0 c1 c2 c3 c4 c5 ma ha ex ey dx dy (k_up (f1 (g a), f2 (g a), f3 (g a), f4 (g a)) (ex, ey, dx, dy)) (k_dn (f1 (g a), f2 (g a), f3 (g a), f4 (g a)) (ex, ey, dx, dy)) (k_ri (f1 (g a), f2 (g a), f3 (g a), f4 (g a)) (ex, ey, dx, dy)) (m_a (f1 (g a), f2 (g a), f3 (g a), f4 (g a)) (ex, ey, dx, dy)) (m_b (f1 (g a), f2 (g a), f3 (g a), f4 (g a)) (ex, ey, dx, dy)) f0 f1 f2 f3 f4 (rf_shift f51 n (a + 1))) H := hP
            have hD : va_D A (y_7 y t0 t1 t2 t3 t4 t5 c0 c1 c2 c3 c4 c5 ma ha ex ey dx dy (k_up (f1 (g a), f2 (g a), f3 (g a), f4 (g a)) (ex, ey, dx, dy)) (k_dn (f1 (g a), f2 (g a), f3 (g a), f4 (g a)) (ex, ey, dx, dy)) (k_ri (f1 (g a), f2 (g a), f3 (g a), f4 (g a)) (ex, ey, dx, dy)) (m_a (f1 (g a), f2 (g a), f3 (g a), f4 (g a)) (ex, ey, dx, dy)) (m_b (f1 (g a), f2 (g a), f3 (g a), f4 (g a)) (ex, ey, dx, dy)) f0 f1 f2 f3 f4 (rf_shift f51 n (a + 1))) := hD
            refine lv_if_eq (tgt := 76) hx hb d_Md_gather_53 (by decide) (fun c_14 => ?_) (fun c_14 => ?_)
            · refine lv_aload_n hx hb d_Md_gather_76 rfl (lv_at hl 3 rfl) ?_
              refine va_get (D := D) (ci := 4) (v := .ref t5) (C := "RayFieldModel") (T := F_Md) (N := 18) hx hb hts in_Md hown hK hP 0 rfl rfl 17 (by decide) (hts _ w_297) (fun _ h9 => h9) rfl d_Md_gather_77 ?_
              refine lv_iload_n hx hb d_Md_gather_80 rfl (lv_at hl 0 rfl) ?_
              refine lv_iload_n hx hb d_Md_gather_81 rfl (lv_at hl 2 rfl) ?_
              refine rf_iast hx hb hK hP hD hS 6 5 rfl rfl (show (a + 1) < 64 by omega) (by decide) d_Md_gather_82 (fun H locs hP hD hS => ?_)
              have hP : va_P D vwCl (y_7 y t0 t1 t2 t3 t4 t5 c0 c1 c2 c3 c4 c5 ma ha ex ey dx dy (k_up (f1 (g a), f2 (g a), f3 (g a), f4 (g a)) (ex, ey, dx, dy)) (k_dn (f1 (g a), f2 (g a), f3 (g a), f4 (g a)) (ex, ey, dx, dy)) (k_ri (f1 (g a), f2 (g a), f3 (g a), f4 (g a)) (ex, ey, dx, dy)) (m_a (f1 (g a), f2 (g a), f3 (g a), f4 (g a)) (ex, ey, dx, dy)) (m_b (f1 (g a), f2 (g a), f3 (g a), f4 (g a)) (ex, ey, dx, dy)) f0 f1 f2 f3 f4 (rf_mins f51 (nI i) n (a + 1))) H := by rw [← rf_shift_e f51 (nI i) n (a + 1)]; exact hP
              have hD : va_D A (y_7 y t0 t1 t2 t3 t4 t5 c0 c1 c2 c3 c4 c5 ma ha ex ey dx dy (k_up (f1 (g a), f2 (g a), f3 (g a), f4 (g a)) (ex, ey, dx, dy)) (k_dn (f1 (g a), f2 (g a), f3 (g a), f4 (g a)) (ex, ey, dx, dy)) (k_ri (f1 (g a), f2 (g a), f3 (g a), f4 (g a)) (ex, ey, dx, dy)) (m_a (f1 (g a), f2 (g a), f3 (g a), f4 (g a)) (ex, ey, dx, dy)) (m_b (f1 (g a), f2 (g a), f3 (g a), f4 (g a)) (ex, ey, dx, dy)) f0 f1 f2 f3 f4 (rf_mins f51 (nI i) n (a + 1))) := by rw [← rf_shift_e f51 (nI i) n (a + 1)]; exact hD
              refine lv_iinc (v := (nI (n + 1))) (lv' := [(1, .int (nI (n + 1))), (3, .int (nI (a + 1))), (2, .int (nI i)), (0, .ref y)]) hx hb d_Md_gather_83 hl (k := 1) rfl (nI_1 n) (by decide) rfl (fun ls hl => ?_)
              refine lv_iinc (v := (nI (i + 1))) (lv' := [(2, .int (nI (i + 1))), (1, .int (nI (n + 1))), (3, .int (nI (a + 1))), (0, .ref y)]) hx hb d_Md_gather_86 hl (k := 2) rfl (nI_1 i) (by decide) rfl (fun ls hl => ?_)
              refine lv_goto (tgt := 4) hx hb d_Md_gather_89 (by decide) ?_
              exact hk _ _ _ _ _ ⟨n + 1, g_ins g (a + 1) i, k_up (f1 (g a), f2 (g a), f3 (g a), f4 (g a)) (ex, ey, dx, dy), k_dn (f1 (g a), f2 (g a), f3 (g a), f4 (g a)) (ex, ey, dx, dy), k_ri (f1 (g a), f2 (g a), f3 (g a), f4 (g a)) (ex, ey, dx, dy), m_a (f1 (g a), f2 (g a), f3 (g a), f4 (g a)) (ex, ey, dx, dy), m_b (f1 (g a), f2 (g a), f3 (g a), f4 (g a)) (ex, ey, dx, dy), (rf_mins f51 (nI i) n (a + 1)), lv_sub hl [1, 0, 3] rfl, hP, hD, hS, Or.inr ⟨⟨_, hwi, hmet⟩, n, g, (a + 1), hg, rfl, ⟨hle, hJ, fun _ => rf_knr.no hwi hwa (hm_13.f c_14)⟩, fun j _ => rfl⟩, rf_row_ins hrow hle, rfl, rfl⟩
            · refine lv_aload_n hx hb d_Md_gather_56 rfl (lv_at hl 3 rfl) ?_
              refine va_get (D := D) (ci := 4) (v := .ref t5) (C := "RayFieldModel") (T := F_Md) (N := 18) hx hb hts in_Md hown hK hP 0 rfl rfl 17 (by decide) (hts _ w_297) (fun _ h9 => h9) rfl d_Md_gather_57 ?_
              refine lv_iload_n hx hb d_Md_gather_60 rfl (lv_at hl 0 rfl) ?_
              refine lv_aload_n hx hb d_Md_gather_61 rfl (lv_at hl 3 rfl) ?_
              refine va_get (D := D) (ci := 4) (v := .ref t5) (C := "RayFieldModel") (T := F_Md) (N := 18) hx hb hts in_Md hown hK hP 0 rfl rfl 17 (by decide) (hts _ w_297) (fun _ h9 => h9) rfl d_Md_gather_62 ?_
              refine lv_iload_n hx hb d_Md_gather_65 rfl (lv_at hl 0 rfl) ?_
              refine lv_iconst (v := 1) hx hb d_Md_gather_66 (by decide) ?_
              refine lv_isub hx hb d_Md_gather_67 ?_
              refine rf_topi (nI_pred a) ?_
              refine rf_iald hx hb hK hP 6 5 rfl rfl (show a < 64 by omega) (by decide) d_Md_gather_68 ?_
              rw [rf_shift_at]
              refine rf_iast hx hb hK hP hD hS 6 5 rfl rfl (show (a + 1) < 64 by omega) (by decide) d_Md_gather_69 (fun H locs hP hD hS => ?_)
              have hP : va_P D vwCl (y_7 y t0 t1 t2 t3 t4 t5 c0 c1 c2 c3 c4 c5 ma ha ex ey dx dy (k_up (f1 (g a), f2 (g a), f3 (g a), f4 (g a)) (ex, ey, dx, dy)) (k_dn (f1 (g a), f2 (g a), f3 (g a), f4 (g a)) (ex, ey, dx, dy)) (k_ri (f1 (g a), f2 (g a), f3 (g a), f4 (g a)) (ex, ey, dx, dy)) (m_a (f1 (g a), f2 (g a), f3 (g a), f4 (g a)) (ex, ey, dx, dy)) (m_b (f1 (g a), f2 (g a), f3 (g a), f4 (g a)) (ex, ey, dx, dy)) f0 f1 f2 f3 f4 (rf_shift f51 n a)) H := by rw [← rf_shift_s f51 n a hle]; exact hP
              have hD : va_D A (y_7 y t0 t1 t2 t3 t4 t5 c0 c1 c2 c3 c4 c5 ma ha ex ey dx dy (k_up (f1 (g a), f2 (g a), f3 (g a), f4 (g a)) (ex, ey, dx, dy)) (k_dn (f1 (g a), f2 (g a), f3 (g a), f4 (g a)) (ex, ey, dx, dy)) (k_ri (f1 (g a), f2 (g a), f3 (g a), f4 (g a)) (ex, ey, dx, dy)) (m_a (f1 (g a), f2 (g a), f3 (g a), f4 (g a)) (ex, ey, dx, dy)) (m_b (f1 (g a), f2 (g a), f3 (g a), f4 (g a)) (ex, ey, dx, dy)) f0 f1 f2 f3 f4 (rf_shift f51 n a)) := by rw [← rf_shift_s f51 n a hle]; exact hD
              refine lv_iinc (v := (nI a)) (lv' := [(3, .int (nI a)), (1, .int (nI n)), (2, .int (nI i)), (0, .ref y)]) hx hb d_Md_gather_70 hl (k := 0) rfl (pk_m1 a) (by decide) rfl (fun ls hl => ?_)
              refine lv_goto (tgt := 36) hx hb d_Md_gather_73 (by decide) ?_
              have hJ2 : ∀ j, a ≤ j → j < n → rf_knr wl (ex, ey, dx, dy) i (g j) := by
                intro j h1 h2
                rcases Nat.lt_or_ge a j with q | q
                · exact hJ j q h2
                · have e : j = a := by omega
                  subst e
                  exact rf_knr.of hwi hwa hga.1 hi (hm_13.t c_14)
              exact hk9 _ _ _ ⟨k_up (f1 (g a), f2 (g a), f3 (g a), f4 (g a)) (ex, ey, dx, dy), k_dn (f1 (g a), f2 (g a), f3 (g a), f4 (g a)) (ex, ey, dx, dy), k_ri (f1 (g a), f2 (g a), f3 (g a), f4 (g a)) (ex, ey, dx, dy), m_a (f1 (g a), f2 (g a), f3 (g a), f4 (g a)) (ex, ey, dx, dy), m_b (f1 (g a), f2 (g a), f3 (g a), f4 (g a)) (ex, ey, dx, dy), lv_sub hl [0, 1, 2, 3] rfl, hP, hD, hS, by omega, hJ2⟩
end
