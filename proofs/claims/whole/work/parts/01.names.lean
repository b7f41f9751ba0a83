-- ===== PART A: goes FIRST, ahead of the names: the tables' words, and 'selects' of the private methods out of them =====
/-- a private method of a class that the tables say can be made, by its rows of tables_1 -/
def lw_okq (q : MethodName × Nat) : Prop := (q.1.cls ≠ "java/lang/invoke/MethodHandle" ∧ q.1.cls ≠ "java/lang/invoke/VarHandle") ∧ Cond.instantiable q.1.cls q.2 ∈ tables_1 ∧ Cond.privateMethod q.1 ∈ tables_1 ∧ Cond.instanceMethod q.1 ∈ tables_1
theorem lw_p0 : lw_okq (⟨"RayField", "leastFreeNumber", "()I"⟩, 5) := ⟨⟨by decide +kernel, by decide +kernel⟩, List.mem_of_getElem? (i := 8) (by decide +kernel), List.mem_of_getElem? (i := 46) (by decide +kernel), List.mem_of_getElem? (i := 47) (by decide +kernel)⟩
theorem lw_p1 : lw_okq (⟨"RayField", "clashes", "(LRayField$Wall;)Z"⟩, 5) := ⟨⟨by decide +kernel, by decide +kernel⟩, List.mem_of_getElem? (i := 8) (by decide +kernel), List.mem_of_getElem? (i := 79) (by decide +kernel), List.mem_of_getElem? (i := 80) (by decide +kernel)⟩
theorem lw_p2 : lw_okq (⟨"RayField$Wall", "overlapsOnItsLine", "(LRayField$Wall;)Z"⟩, 4) := ⟨⟨by decide +kernel, by decide +kernel⟩, List.mem_of_getElem? (i := 52) (by decide +kernel), List.mem_of_getElem? (i := 94) (by decide +kernel), List.mem_of_getElem? (i := 95) (by decide +kernel)⟩
theorem lw_p3 : lw_okq (⟨"RayField$Wall", "sharesEndWith", "(LRayField$Wall;)Z"⟩, 4) := ⟨⟨by decide +kernel, by decide +kernel⟩, List.mem_of_getElem? (i := 52) (by decide +kernel), List.mem_of_getElem? (i := 107) (by decide +kernel), List.mem_of_getElem? (i := 108) (by decide +kernel)⟩
theorem lw_p4 : lw_okq (⟨"RayField$Wall", "hasEnd", "(II)Z"⟩, 4) := ⟨⟨by decide +kernel, by decide +kernel⟩, List.mem_of_getElem? (i := 52) (by decide +kernel), List.mem_of_getElem? (i := 111) (by decide +kernel), List.mem_of_getElem? (i := 112) (by decide +kernel)⟩
theorem lw_p5 : lw_okq (⟨"RayField", "meetAgain", "()V"⟩, 5) := ⟨⟨by decide +kernel, by decide +kernel⟩, List.mem_of_getElem? (i := 8) (by decide +kernel), List.mem_of_getElem? (i := 115) (by decide +kernel), List.mem_of_getElem? (i := 116) (by decide +kernel)⟩
theorem lw_p6 : lw_okq (⟨"RayField", "meetOne", "(ILRayField$Wall;LRayField$Ray;)V"⟩, 5) := ⟨⟨by decide +kernel, by decide +kernel⟩, List.mem_of_getElem? (i := 8) (by decide +kernel), List.mem_of_getElem? (i := 119) (by decide +kernel), List.mem_of_getElem? (i := 120) (by decide +kernel)⟩
theorem lw_p7 : lw_okq (⟨"RayField", "sortIn", "(LRayField$Meeting;)V"⟩, 5) := ⟨⟨by decide +kernel, by decide +kernel⟩, List.mem_of_getElem? (i := 8) (by decide +kernel), List.mem_of_getElem? (i := 161) (by decide +kernel), List.mem_of_getElem? (i := 162) (by decide +kernel)⟩
theorem lw_p8 : lw_okq (⟨"RayField", "wallNumbered", "(I)LRayField$Wall;"⟩, 5) := ⟨⟨by decide +kernel, by decide +kernel⟩, List.mem_of_getElem? (i := 8) (by decide +kernel), List.mem_of_getElem? (i := 173) (by decide +kernel), List.mem_of_getElem? (i := 174) (by decide +kernel)⟩
theorem lw_p9 : lw_okq (⟨"RayField", "meetingAt", "(I)LRayField$Meeting;"⟩, 5) := ⟨⟨by decide +kernel, by decide +kernel⟩, List.mem_of_getElem? (i := 8) (by decide +kernel), List.mem_of_getElem? (i := 222) (by decide +kernel), List.mem_of_getElem? (i := 223) (by decide +kernel)⟩
theorem lw_p10 : lw_okq (⟨"RayFieldModel", "free", "()I"⟩, 18) := ⟨⟨by decide +kernel, by decide +kernel⟩, List.mem_of_getElem? (i := 275) (by decide +kernel), List.mem_of_getElem? (i := 342) (by decide +kernel), List.mem_of_getElem? (i := 343) (by decide +kernel)⟩
theorem lw_p11 : lw_okq (⟨"RayFieldModel", "areApart", "(II)Z"⟩, 18) := ⟨⟨by decide +kernel, by decide +kernel⟩, List.mem_of_getElem? (i := 275) (by decide +kernel), List.mem_of_getElem? (i := 349) (by decide +kernel), List.mem_of_getElem? (i := 350) (by decide +kernel)⟩
theorem lw_p12 : lw_okq (⟨"RayFieldModel", "isEnd", "(III)Z"⟩, 18) := ⟨⟨by decide +kernel, by decide +kernel⟩, List.mem_of_getElem? (i := 275) (by decide +kernel), List.mem_of_getElem? (i := 356) (by decide +kernel), List.mem_of_getElem? (i := 357) (by decide +kernel)⟩
theorem lw_p13 : lw_okq (⟨"RayFieldModel", "isOn", "(III)Z"⟩, 18) := ⟨⟨by decide +kernel, by decide +kernel⟩, List.mem_of_getElem? (i := 275) (by decide +kernel), List.mem_of_getElem? (i := 360) (by decide +kernel), List.mem_of_getElem? (i := 361) (by decide +kernel)⟩
theorem lw_p14 : lw_okq (⟨"RayFieldModel", "isWall", "(I)Z"⟩, 18) := ⟨⟨by decide +kernel, by decide +kernel⟩, List.mem_of_getElem? (i := 275) (by decide +kernel), List.mem_of_getElem? (i := 368) (by decide +kernel), List.mem_of_getElem? (i := 369) (by decide +kernel)⟩
theorem lw_p15 : lw_okq (⟨"RayFieldModel", "gather", "()I"⟩, 18) := ⟨⟨by decide +kernel, by decide +kernel⟩, List.mem_of_getElem? (i := 275) (by decide +kernel), List.mem_of_getElem? (i := 388) (by decide +kernel), List.mem_of_getElem? (i := 389) (by decide +kernel)⟩
def lw_privs_1 : List (MethodName × Nat) := [(⟨"RayField", "leastFreeNumber", "()I"⟩, 5), (⟨"RayField", "clashes", "(LRayField$Wall;)Z"⟩, 5), (⟨"RayField$Wall", "overlapsOnItsLine", "(LRayField$Wall;)Z"⟩, 4), (⟨"RayField$Wall", "sharesEndWith", "(LRayField$Wall;)Z"⟩, 4), (⟨"RayField$Wall", "hasEnd", "(II)Z"⟩, 4), (⟨"RayField", "meetAgain", "()V"⟩, 5), (⟨"RayField", "meetOne", "(ILRayField$Wall;LRayField$Ray;)V"⟩, 5), (⟨"RayField", "sortIn", "(LRayField$Meeting;)V"⟩, 5), (⟨"RayField", "wallNumbered", "(I)LRayField$Wall;"⟩, 5), (⟨"RayField", "meetingAt", "(I)LRayField$Meeting;"⟩, 5), (⟨"RayFieldModel", "free", "()I"⟩, 18), (⟨"RayFieldModel", "areApart", "(II)Z"⟩, 18), (⟨"RayFieldModel", "isEnd", "(III)Z"⟩, 18), (⟨"RayFieldModel", "isOn", "(III)Z"⟩, 18), (⟨"RayFieldModel", "isWall", "(I)Z"⟩, 18), (⟨"RayFieldModel", "gather", "()I"⟩, 18)]
theorem lw_r1 : ∀ q ∈ lw_privs_1, lw_okq q := List.forall_mem_cons.mpr ⟨lw_p0, List.forall_mem_cons.mpr ⟨lw_p1, List.forall_mem_cons.mpr ⟨lw_p2, List.forall_mem_cons.mpr ⟨lw_p3, List.forall_mem_cons.mpr ⟨lw_p4, List.forall_mem_cons.mpr ⟨lw_p5, List.forall_mem_cons.mpr ⟨lw_p6, List.forall_mem_cons.mpr ⟨lw_p7, List.forall_mem_cons.mpr ⟨lw_p8, List.forall_mem_cons.mpr ⟨lw_p9, List.forall_mem_cons.mpr ⟨lw_p10, List.forall_mem_cons.mpr ⟨lw_p11, List.forall_mem_cons.mpr ⟨lw_p12, List.forall_mem_cons.mpr ⟨lw_p13, List.forall_mem_cons.mpr ⟨lw_p14, List.forall_mem_cons.mpr ⟨lw_p15, fun _ h => absurd h List.not_mem_nil⟩⟩⟩⟩⟩⟩⟩⟩⟩⟩⟩⟩⟩⟩⟩⟩
theorem lw_p16 : lw_okq (⟨"RayFieldModel", "meets", "(I)Z"⟩, 18) := ⟨⟨by decide +kernel, by decide +kernel⟩, List.mem_of_getElem? (i := 275) (by decide +kernel), List.mem_of_getElem? (i := 392) (by decide +kernel), List.mem_of_getElem? (i := 393) (by decide +kernel)⟩
theorem lw_p17 : lw_okq (⟨"RayFieldModel", "isAhead", "(II)Z"⟩, 18) := ⟨⟨by decide +kernel, by decide +kernel⟩, List.mem_of_getElem? (i := 275) (by decide +kernel), List.mem_of_getElem? (i := 396) (by decide +kernel), List.mem_of_getElem? (i := 397) (by decide +kernel)⟩
theorem lw_p18 : lw_okq (⟨"RayFieldModel", "isMet", "(I)Z"⟩, 18) := ⟨⟨by decide +kernel, by decide +kernel⟩, List.mem_of_getElem? (i := 275) (by decide +kernel), List.mem_of_getElem? (i := 404) (by decide +kernel), List.mem_of_getElem? (i := 405) (by decide +kernel)⟩
def lw_privs_2 : List (MethodName × Nat) := [(⟨"RayFieldModel", "meets", "(I)Z"⟩, 18), (⟨"RayFieldModel", "isAhead", "(II)Z"⟩, 18), (⟨"RayFieldModel", "isMet", "(I)Z"⟩, 18)]
theorem lw_r2 : ∀ q ∈ lw_privs_2, lw_okq q := List.forall_mem_cons.mpr ⟨lw_p16, List.forall_mem_cons.mpr ⟨lw_p17, List.forall_mem_cons.mpr ⟨lw_p18, fun _ h => absurd h List.not_mem_nil⟩⟩⟩
def lw_privs : List (MethodName × Nat) := lw_privs_1 ++ (lw_privs_2)
def lw_tbl : List Cond := k2_sels lw_privs ++ tables_1
theorem lw_privs_ok : ∀ q ∈ lw_privs, lw_okq q := by
  show ∀ q ∈ lw_privs_1 ++ (lw_privs_2), lw_okq q
  exact List.forall_mem_append.mpr ⟨lw_r1, lw_r2⟩
def BIG : List Cond := lw_tbl.filter goodWord
theorem big_mem {w : Cond} (h : w ∈ lw_tbl) (g : goodWord w = true) : w ∈ BIG := List.mem_filter.mpr ⟨h, g⟩
def F_Wall : u_T := fun k => match k with
  | 0 => ("RayField$Wall", "ax", "I", false)
  | 1 => ("RayField$Wall", "ay", "I", false)
  | 2 => ("RayField$Wall", "bx", "I", false)
  | _ => ("RayField$Wall", "by", "I", false)
def t_Wall : Nat → FieldType := fun k => match k with
  | 0 => .int
  | 1 => .int
  | 2 => .int
  | _ => .int
theorem nn_Wall : ∀ a, a < 4 → ∀ b, b < 4 → a ≠ b → (F_Wall a).2.1 ≠ (F_Wall b).2.1 := by decide +kernel
theorem tok_Wall : ∀ k, k < 4 → parseFieldDescriptor (F_Wall k).2.2.1 = some (t_Wall k) := by decide +kernel
theorem in_Wall : ∀ w ∈ u_ws "RayField$Wall" F_Wall 4, w ∈ BIG := by decide +kernel
def F_Ray : u_T := fun k => match k with
  | 0 => ("RayField$Ray", "ex", "I", true)
  | 1 => ("RayField$Ray", "ey", "I", true)
  | 2 => ("RayField$Ray", "dx", "I", true)
  | _ => ("RayField$Ray", "dy", "I", true)
def t_Ray : Nat → FieldType := fun k => match k with
  | 0 => .int
  | 1 => .int
  | 2 => .int
  | _ => .int
theorem nn_Ray : ∀ a, a < 4 → ∀ b, b < 4 → a ≠ b → (F_Ray a).2.1 ≠ (F_Ray b).2.1 := by decide +kernel
theorem tok_Ray : ∀ k, k < 4 → parseFieldDescriptor (F_Ray k).2.2.1 = some (t_Ray k) := by decide +kernel
theorem in_Ray : ∀ w ∈ u_ws "RayField$Ray" F_Ray 4, w ∈ BIG := by decide +kernel
def F_Meeting : u_T := fun k => match k with
  | 0 => ("RayField$Meeting", "number", "I", false)
  | 1 => ("RayField$Meeting", "fromRight", "Z", false)
  | 2 => ("RayField$Meeting", "distance", "J", false)
  | 3 => ("RayField$Meeting", "advance", "J", false)
  | _ => ("RayField$Meeting", "divisor", "J", false)
def t_Meeting : Nat → FieldType := fun k => match k with
  | 0 => .int
  | 1 => .boolean
  | 2 => .long
  | 3 => .long
  | _ => .long
theorem nn_Meeting : ∀ a, a < 5 → ∀ b, b < 5 → a ≠ b → (F_Meeting a).2.1 ≠ (F_Meeting b).2.1 := by decide +kernel
theorem tok_Meeting : ∀ k, k < 5 → parseFieldDescriptor (F_Meeting k).2.2.1 = some (t_Meeting k) := by decide +kernel
theorem in_Meeting : ∀ w ∈ u_ws "RayField$Meeting" F_Meeting 5, w ∈ BIG := by decide +kernel
def F_RF : u_T := fun k => match k with
  | 0 => ("RayField", "walls", "[LRayField$Wall;", true)
  | 1 => ("RayField", "wallCount", "I", false)
  | 2 => ("RayField", "theRay", "LRayField$Ray;", false)
  | 3 => ("RayField", "meetings", "[LRayField$Meeting;", true)
  | _ => ("RayField", "metCount", "I", false)
def t_RF : Nat → FieldType := fun k => match k with
  | 0 => .array (.object "RayField$Wall")
  | 1 => .int
  | 2 => .object "RayField$Ray"
  | 3 => .array (.object "RayField$Meeting")
  | _ => .int
theorem nn_RF : ∀ a, a < 5 → ∀ b, b < 5 → a ≠ b → (F_RF a).2.1 ≠ (F_RF b).2.1 := by decide +kernel
theorem tok_RF : ∀ k, k < 5 → parseFieldDescriptor (F_RF k).2.2.1 = some (t_RF k) := by decide +kernel
theorem in_RF : ∀ w ∈ u_ws "RayField" F_RF 5, w ∈ BIG := by decide +kernel
def F_Md : u_T := fun k => match k with
  | 0 => ("RayFieldModel", "thrown", "I", false)
  | 1 => ("RayFieldModel", "there", "[Z", true)
  | 2 => ("RayFieldModel", "ax", "[I", true)
  | 3 => ("RayFieldModel", "ay", "[I", true)
  | 4 => ("RayFieldModel", "bx", "[I", true)
  | 5 => ("RayFieldModel", "by", "[I", true)
  | 6 => ("RayFieldModel", "many", "I", false)
  | 7 => ("RayFieldModel", "hasRay", "Z", false)
  | 8 => ("RayFieldModel", "ex", "I", false)
  | 9 => ("RayFieldModel", "ey", "I", false)
  | 10 => ("RayFieldModel", "dx", "I", false)
  | 11 => ("RayFieldModel", "dy", "I", false)
  | 12 => ("RayFieldModel", "above", "J", false)
  | 13 => ("RayFieldModel", "below", "J", false)
  | 14 => ("RayFieldModel", "right", "Z", false)
  | 15 => ("RayFieldModel", "one", "J", false)
  | 16 => ("RayFieldModel", "two", "J", false)
  | _ => ("RayFieldModel", "row", "[I", true)
def t_Md : Nat → FieldType := fun k => match k with
  | 0 => .int
  | 1 => .array (.boolean)
  | 2 => .array (.int)
  | 3 => .array (.int)
  | 4 => .array (.int)
  | 5 => .array (.int)
  | 6 => .int
  | 7 => .boolean
  | 8 => .int
  | 9 => .int
  | 10 => .int
  | 11 => .int
  | 12 => .long
  | 13 => .long
  | 14 => .boolean
  | 15 => .long
  | 16 => .long
  | _ => .array (.int)
theorem nn_Md : ∀ a, a < 18 → ∀ b, b < 18 → a ≠ b → (F_Md a).2.1 ≠ (F_Md b).2.1 := by decide +kernel
theorem tok_Md : ∀ k, k < 18 → parseFieldDescriptor (F_Md k).2.2.1 = some (t_Md k) := by decide +kernel
theorem in_Md : ∀ w ∈ u_ws "RayFieldModel" F_Md 18, w ∈ BIG := by decide +kernel
abbrev vwCl : List vw_C := [("RayField$Wall", F_Wall, 4), ("RayField$Ray", F_Ray, 4), ("RayField$Meeting", F_Meeting, 5), ("RayField", F_RF, 5), ("RayFieldModel", F_Md, 18)]
abbrev b_RF_init : ByteArray := prog_1_method_1_code
abbrev y_RF_init : MethodName := ⟨"RayField", "<init>", "()V"⟩
abbrev b_RF_put : ByteArray := prog_1_method_2_code
abbrev y_RF_put : MethodName := ⟨"RayField", "put", "(IIII)I"⟩
abbrev b_RF_take : ByteArray := prog_1_method_3_code
abbrev y_RF_take : MethodName := ⟨"RayField", "take", "(I)Z"⟩
abbrev b_RF_turn : ByteArray := prog_1_method_4_code
abbrev y_RF_turn : MethodName := ⟨"RayField", "turn", "(I)Z"⟩
abbrev b_RF_clear : ByteArray := prog_1_method_5_code
abbrev y_RF_clear : MethodName := ⟨"RayField", "clear", "()V"⟩
abbrev b_RF_ray : ByteArray := prog_1_method_6_code
abbrev y_RF_ray : MethodName := ⟨"RayField", "ray", "(IIII)Z"⟩
abbrev b_RF_met : ByteArray := prog_1_method_7_code
abbrev y_RF_met : MethodName := ⟨"RayField", "met", "()I"⟩
abbrev b_RF_wall : ByteArray := prog_1_method_8_code
abbrev y_RF_wall : MethodName := ⟨"RayField", "wall", "(I)I"⟩
abbrev b_RF_isRight : ByteArray := prog_1_method_9_code
abbrev y_RF_isRight : MethodName := ⟨"RayField", "isRight", "(I)Z"⟩
abbrev b_RF_times : ByteArray := prog_1_method_10_code
abbrev y_RF_times : MethodName := ⟨"RayField", "times", "(II)J"⟩
abbrev b_RF_along : ByteArray := prog_1_method_11_code
abbrev y_RF_along : MethodName := ⟨"RayField", "along", "(I)I"⟩
abbrev b_RF_within : ByteArray := prog_1_method_12_code
abbrev y_RF_within : MethodName := ⟨"RayField", "within", "(II)I"⟩
abbrev b_RF_on : ByteArray := prog_1_method_13_code
abbrev y_RF_on : MethodName := ⟨"RayField", "on", "(II)I"⟩
abbrev b_RF_of : ByteArray := prog_1_method_14_code
abbrev y_RF_of : MethodName := ⟨"RayField", "of", "(II)I"⟩
abbrev b_RF_look : ByteArray := prog_1_method_15_code
abbrev y_RF_look : MethodName := ⟨"RayField", "look", "(I)I"⟩
abbrev b_RF_leastFreeNumber : ByteArray := prog_1_method_16_code
abbrev y_RF_leastFreeNumber : MethodName := ⟨"RayField", "leastFreeNumber", "()I"⟩
abbrev b_RF_wallNumbered : ByteArray := prog_1_method_17_code
abbrev y_RF_wallNumbered : MethodName := ⟨"RayField", "wallNumbered", "(I)LRayField$Wall;"⟩
abbrev b_RF_clashes : ByteArray := prog_1_method_18_code
abbrev y_RF_clashes : MethodName := ⟨"RayField", "clashes", "(LRayField$Wall;)Z"⟩
abbrev b_RF_meetingAt : ByteArray := prog_1_method_19_code
abbrev y_RF_meetingAt : MethodName := ⟨"RayField", "meetingAt", "(I)LRayField$Meeting;"⟩
abbrev b_RF_meetAgain : ByteArray := prog_1_method_20_code
abbrev y_RF_meetAgain : MethodName := ⟨"RayField", "meetAgain", "()V"⟩
abbrev b_RF_meetOne : ByteArray := prog_1_method_21_code
abbrev y_RF_meetOne : MethodName := ⟨"RayField", "meetOne", "(ILRayField$Wall;LRayField$Ray;)V"⟩
abbrev b_RF_sortIn : ByteArray := prog_1_method_22_code
abbrev y_RF_sortIn : MethodName := ⟨"RayField", "sortIn", "(LRayField$Meeting;)V"⟩
abbrev b_RF_isNumber : ByteArray := prog_1_method_23_code
abbrev y_RF_isNumber : MethodName := ⟨"RayField", "isNumber", "(I)Z"⟩
abbrev b_RF_isPlace : ByteArray := prog_1_method_24_code
abbrev y_RF_isPlace : MethodName := ⟨"RayField", "isPlace", "(III)Z"⟩
abbrev b_RF_isBetween : ByteArray := prog_1_method_25_code
abbrev y_RF_isBetween : MethodName := ⟨"RayField", "isBetween", "(III)Z"⟩
abbrev b_RF_cross : ByteArray := prog_1_method_26_code
abbrev y_RF_cross : MethodName := ⟨"RayField", "cross", "(JJJJ)J"⟩
abbrev b_Md_init : ByteArray := prog_6_method_1_code
abbrev y_Md_init : MethodName := ⟨"RayFieldModel", "<init>", "()V"⟩
abbrev b_Md_cross : ByteArray := prog_6_method_3_code
abbrev y_Md_cross : MethodName := ⟨"RayFieldModel", "cross", "(JJJJ)J"⟩
abbrev b_Md_isIn : ByteArray := prog_6_method_4_code
abbrev y_Md_isIn : MethodName := ⟨"RayFieldModel", "isIn", "(II)Z"⟩
abbrev b_Md_free : ByteArray := prog_6_method_5_code
abbrev y_Md_free : MethodName := ⟨"RayFieldModel", "free", "()I"⟩
abbrev b_Md_isOn : ByteArray := prog_6_method_6_code
abbrev y_Md_isOn : MethodName := ⟨"RayFieldModel", "isOn", "(III)Z"⟩
abbrev b_Md_isEnd : ByteArray := prog_6_method_7_code
abbrev y_Md_isEnd : MethodName := ⟨"RayFieldModel", "isEnd", "(III)Z"⟩
abbrev b_Md_areApart : ByteArray := prog_6_method_8_code
abbrev y_Md_areApart : MethodName := ⟨"RayFieldModel", "areApart", "(II)Z"⟩
abbrev b_Md_put : ByteArray := prog_6_method_9_code
abbrev y_Md_put : MethodName := ⟨"RayFieldModel", "put", "(IIII)I"⟩
abbrev b_Md_isWall : ByteArray := prog_6_method_10_code
abbrev y_Md_isWall : MethodName := ⟨"RayFieldModel", "isWall", "(I)Z"⟩
abbrev b_Md_take : ByteArray := prog_6_method_11_code
abbrev y_Md_take : MethodName := ⟨"RayFieldModel", "take", "(I)Z"⟩
abbrev b_Md_turn : ByteArray := prog_6_method_12_code
abbrev y_Md_turn : MethodName := ⟨"RayFieldModel", "turn", "(I)Z"⟩
abbrev b_Md_clear : ByteArray := prog_6_method_13_code
abbrev y_Md_clear : MethodName := ⟨"RayFieldModel", "clear", "()V"⟩
abbrev b_Md_ray : ByteArray := prog_6_method_14_code
abbrev y_Md_ray : MethodName := ⟨"RayFieldModel", "ray", "(IIII)Z"⟩
abbrev b_Md_meets : ByteArray := prog_6_method_15_code
abbrev y_Md_meets : MethodName := ⟨"RayFieldModel", "meets", "(I)Z"⟩
abbrev b_Md_isAhead : ByteArray := prog_6_method_16_code
abbrev y_Md_isAhead : MethodName := ⟨"RayFieldModel", "isAhead", "(II)Z"⟩
abbrev b_Md_gather : ByteArray := prog_6_method_17_code
abbrev y_Md_gather : MethodName := ⟨"RayFieldModel", "gather", "()I"⟩
abbrev b_Md_met : ByteArray := prog_6_method_18_code
abbrev y_Md_met : MethodName := ⟨"RayFieldModel", "met", "()I"⟩
abbrev b_Md_isMet : ByteArray := prog_6_method_19_code
abbrev y_Md_isMet : MethodName := ⟨"RayFieldModel", "isMet", "(I)Z"⟩
abbrev b_Md_wall : ByteArray := prog_6_method_20_code
abbrev y_Md_wall : MethodName := ⟨"RayFieldModel", "wall", "(I)I"⟩
abbrev b_Md_isRight : ByteArray := prog_6_method_21_code
abbrev y_Md_isRight : MethodName := ⟨"RayFieldModel", "isRight", "(I)Z"⟩
abbrev b_Md_times : ByteArray := prog_6_method_22_code
abbrev y_Md_times : MethodName := ⟨"RayFieldModel", "times", "(II)J"⟩
abbrev b_Md_down : ByteArray := prog_6_method_23_code
abbrev y_Md_down : MethodName := ⟨"RayFieldModel", "down", "(JJ)J"⟩
abbrev b_Md_along : ByteArray := prog_6_method_24_code
abbrev y_Md_along : MethodName := ⟨"RayFieldModel", "along", "(I)I"⟩
abbrev b_Md_within : ByteArray := prog_6_method_25_code
abbrev y_Md_within : MethodName := ⟨"RayFieldModel", "within", "(II)I"⟩
abbrev b_Md_on : ByteArray := prog_6_method_26_code
abbrev y_Md_on : MethodName := ⟨"RayFieldModel", "on", "(II)I"⟩
abbrev b_Md_of : ByteArray := prog_6_method_27_code
abbrev y_Md_of : MethodName := ⟨"RayFieldModel", "of", "(II)I"⟩
abbrev b_Md_look : ByteArray := prog_6_method_28_code
abbrev y_Md_look : MethodName := ⟨"RayFieldModel", "look", "(I)I"⟩
abbrev b_Meeting_init : ByteArray := prog_2_method_1_code
abbrev y_Meeting_init : MethodName := ⟨"RayField$Meeting", "<init>", "()V"⟩
abbrev b_Meeting_fill : ByteArray := prog_2_method_2_code
abbrev y_Meeting_fill : MethodName := ⟨"RayField$Meeting", "fill", "(ILRayField$Wall;LRayField$Ray;)Z"⟩
abbrev b_Meeting_isNearerThan : ByteArray := prog_2_method_3_code
abbrev y_Meeting_isNearerThan : MethodName := ⟨"RayField$Meeting", "isNearerThan", "(LRayField$Meeting;)Z"⟩
abbrev b_Meeting_isAtMost : ByteArray := prog_2_method_4_code
abbrev y_Meeting_isAtMost : MethodName := ⟨"RayField$Meeting", "isAtMost", "(JJ)Z"⟩
abbrev b_Meeting_roundedDown : ByteArray := prog_2_method_5_code
abbrev y_Meeting_roundedDown : MethodName := ⟨"RayField$Meeting", "roundedDown", "(J)J"⟩
abbrev b_Ray_init : ByteArray := prog_3_method_1_code
abbrev y_Ray_init : MethodName := ⟨"RayField$Ray", "<init>", "(IIII)V"⟩
abbrev b_Ray_side : ByteArray := prog_3_method_2_code
abbrev y_Ray_side : MethodName := ⟨"RayField$Ray", "side", "(II)J"⟩
abbrev b_Wall_init : ByteArray := prog_4_method_1_code
abbrev y_Wall_init : MethodName := ⟨"RayField$Wall", "<init>", "(IIII)V"⟩
abbrev b_Wall_exchangeEnds : ByteArray := prog_4_method_2_code
abbrev y_Wall_exchangeEnds : MethodName := ⟨"RayField$Wall", "exchangeEnds", "()V"⟩
abbrev b_Wall_side : ByteArray := prog_4_method_3_code
abbrev y_Wall_side : MethodName := ⟨"RayField$Wall", "side", "(II)J"⟩
abbrev b_Wall_covers : ByteArray := prog_4_method_4_code
abbrev y_Wall_covers : MethodName := ⟨"RayField$Wall", "covers", "(II)Z"⟩
abbrev b_Wall_clashesWith : ByteArray := prog_4_method_5_code
abbrev y_Wall_clashesWith : MethodName := ⟨"RayField$Wall", "clashesWith", "(LRayField$Wall;)Z"⟩
abbrev b_Wall_overlapsOnItsLine : ByteArray := prog_4_method_6_code
abbrev y_Wall_overlapsOnItsLine : MethodName := ⟨"RayField$Wall", "overlapsOnItsLine", "(LRayField$Wall;)Z"⟩
abbrev b_Wall_sharesEndWith : ByteArray := prog_4_method_7_code
abbrev y_Wall_sharesEndWith : MethodName := ⟨"RayField$Wall", "sharesEndWith", "(LRayField$Wall;)Z"⟩
abbrev b_Wall_hasEnd : ByteArray := prog_4_method_8_code
abbrev y_Wall_hasEnd : MethodName := ⟨"RayField$Wall", "hasEnd", "(II)Z"⟩
abbrev b_Wall_commonLength : ByteArray := prog_4_method_9_code
abbrev y_Wall_commonLength : MethodName := ⟨"RayField$Wall", "commonLength", "(IIII)I"⟩
abbrev b_Math_floorDiv : ByteArray := prog_7_method_49_code
abbrev y_Math_floorDiv : MethodName := ⟨"java/lang/Math", "floorDiv", "(JJ)J"⟩
theorem w_0 : (Jvm.Cond.initialized "RayFieldLaw") ∈ BIG := big_mem (List.mem_append_right _ (List.mem_of_getElem? (i := 0) (by decide +kernel))) (by decide +kernel)
theorem w_1 : (Jvm.Cond.initialized "RayField") ∈ BIG := big_mem (List.mem_append_right _ (List.mem_of_getElem? (i := 1) (by decide +kernel))) (by decide +kernel)
theorem w_2 : (Jvm.Cond.initialized "RayFieldModel") ∈ BIG := big_mem (List.mem_append_right _ (List.mem_of_getElem? (i := 2) (by decide +kernel))) (by decide +kernel)
theorem w_3 : (Jvm.Cond.initialized "RayField$Wall") ∈ BIG := big_mem (List.mem_append_right _ (List.mem_of_getElem? (i := 3) (by decide +kernel))) (by decide +kernel)
theorem w_4 : (Jvm.Cond.initialized "java/lang/Math") ∈ BIG := big_mem (List.mem_append_right _ (List.mem_of_getElem? (i := 4) (by decide +kernel))) (by decide +kernel)
theorem w_5 : (Jvm.Cond.initialized "RayField$Meeting") ∈ BIG := big_mem (List.mem_append_right _ (List.mem_of_getElem? (i := 5) (by decide +kernel))) (by decide +kernel)
theorem w_6 : (Jvm.Cond.initialized "RayField$Ray") ∈ BIG := big_mem (List.mem_append_right _ (List.mem_of_getElem? (i := 6) (by decide +kernel))) (by decide +kernel)
theorem w_7 : (Jvm.Cond.classLink "RayFieldLaw" (7 : Nat) "RayField") ∈ BIG := big_mem (List.mem_append_right _ (List.mem_of_getElem? (i := 7) (by decide +kernel))) (by decide +kernel)
theorem w_8 : (Jvm.Cond.instantiable "RayField" (5 : Nat)) ∈ BIG := big_mem (List.mem_append_right _ (List.mem_of_getElem? (i := 8) (by decide +kernel))) (by decide +kernel)
theorem w_9 : (Jvm.Cond.methodLink "RayFieldLaw" (9 : Nat) ({ cls := "RayField", name := "<init>", desc := "()V" } : Jvm.MethodName)) ∈ BIG := big_mem (List.mem_append_right _ (List.mem_of_getElem? (i := 9) (by decide +kernel))) (by decide +kernel)
theorem w_10 : (Jvm.Cond.instanceMethod ({ cls := "RayField", name := "<init>", desc := "()V" } : Jvm.MethodName)) ∈ BIG := big_mem (List.mem_append_right _ (List.mem_of_getElem? (i := 10) (by decide +kernel))) (by decide +kernel)
theorem w_11 : (Jvm.Cond.code ({ cls := "RayField", name := "<init>", desc := "()V" } : Jvm.MethodName) prog_1_method_1_code (1 : Nat) (Option.none : Option Jvm.ClassFile.FieldType)) ∈ BIG := big_mem (List.mem_append_right _ (List.mem_of_getElem? (i := 11) (by decide +kernel))) (by decide +kernel)
theorem w_12 : (Jvm.Cond.methodLink "RayField" (1 : Nat) ({ cls := "java/lang/Object", name := "<init>", desc := "()V" } : Jvm.MethodName)) ∈ BIG := big_mem (List.mem_append_right _ (List.mem_of_getElem? (i := 12) (by decide +kernel))) (by decide +kernel)
theorem w_13 : (Jvm.Cond.instanceMethod ({ cls := "java/lang/Object", name := "<init>", desc := "()V" } : Jvm.MethodName)) ∈ BIG := big_mem (List.mem_append_right _ (List.mem_of_getElem? (i := 13) (by decide +kernel))) (by decide +kernel)
theorem w_14 : (Jvm.Cond.code ({ cls := "java/lang/Object", name := "<init>", desc := "()V" } : Jvm.MethodName) object_method_1_code (1 : Nat) (Option.none : Option Jvm.ClassFile.FieldType)) ∈ BIG := big_mem (List.mem_append_right _ (List.mem_of_getElem? (i := 14) (by decide +kernel))) (by decide +kernel)
theorem w_15 : (Jvm.Cond.classLink "RayField" (9 : Nat) "RayField$Wall") ∈ BIG := big_mem (List.mem_append_right _ (List.mem_of_getElem? (i := 15) (by decide +kernel))) (by decide +kernel)
theorem w_16 : (Jvm.Cond.arrayOver (Jvm.ClassFile.FieldType.object "RayField$Wall")) ∈ lw_tbl := (List.mem_append_right _ (List.mem_of_getElem? (i := 16) (by decide +kernel)))
theorem w_17 : (Jvm.Cond.classLink "RayField" (15 : Nat) "RayField$Meeting") ∈ BIG := big_mem (List.mem_append_right _ (List.mem_of_getElem? (i := 17) (by decide +kernel))) (by decide +kernel)
theorem w_18 : (Jvm.Cond.arrayOver (Jvm.ClassFile.FieldType.object "RayField$Meeting")) ∈ lw_tbl := (List.mem_append_right _ (List.mem_of_getElem? (i := 18) (by decide +kernel)))
theorem w_19 : (Jvm.Cond.fieldLink "RayField" (11 : Nat) "RayField" "walls" "[LRayField$Wall;") ∈ BIG := big_mem (List.mem_append_right _ (List.mem_of_getElem? (i := 19) (by decide +kernel))) (by decide +kernel)
theorem w_20 : (Jvm.Cond.fieldLink "RayField" (40 : Nat) "RayField" "wallCount" "I") ∈ BIG := big_mem (List.mem_append_right _ (List.mem_of_getElem? (i := 20) (by decide +kernel))) (by decide +kernel)
theorem w_21 : (Jvm.Cond.fieldLink "RayField" (57 : Nat) "RayField" "theRay" "LRayField$Ray;") ∈ BIG := big_mem (List.mem_append_right _ (List.mem_of_getElem? (i := 21) (by decide +kernel))) (by decide +kernel)
theorem w_22 : (Jvm.Cond.fieldLink "RayField" (17 : Nat) "RayField" "meetings" "[LRayField$Meeting;") ∈ BIG := big_mem (List.mem_append_right _ (List.mem_of_getElem? (i := 22) (by decide +kernel))) (by decide +kernel)
theorem w_23 : (Jvm.Cond.fieldLink "RayField" (61 : Nat) "RayField" "metCount" "I") ∈ BIG := big_mem (List.mem_append_right _ (List.mem_of_getElem? (i := 23) (by decide +kernel))) (by decide +kernel)
theorem w_24 : (Jvm.Cond.laysFinal "RayField" "RayField" "walls" "[LRayField$Wall;") ∈ BIG := big_mem (List.mem_append_right _ (List.mem_of_getElem? (i := 24) (by decide +kernel))) (by decide +kernel)
theorem w_26 : (Jvm.Cond.lays "RayField" "RayField" "wallCount" "I") ∈ BIG := big_mem (List.mem_append_right _ (List.mem_of_getElem? (i := 26) (by decide +kernel))) (by decide +kernel)
theorem w_28 : (Jvm.Cond.lays "RayField" "RayField" "theRay" "LRayField$Ray;") ∈ BIG := big_mem (List.mem_append_right _ (List.mem_of_getElem? (i := 28) (by decide +kernel))) (by decide +kernel)
theorem w_30 : (Jvm.Cond.laysFinal "RayField" "RayField" "meetings" "[LRayField$Meeting;") ∈ BIG := big_mem (List.mem_append_right _ (List.mem_of_getElem? (i := 30) (by decide +kernel))) (by decide +kernel)
theorem w_32 : (Jvm.Cond.lays "RayField" "RayField" "metCount" "I") ∈ BIG := big_mem (List.mem_append_right _ (List.mem_of_getElem? (i := 32) (by decide +kernel))) (by decide +kernel)
theorem w_35 : (Jvm.Cond.methodLink "RayFieldLaw" (13 : Nat) ({ cls := "RayField", name := "put", desc := "(IIII)I" } : Jvm.MethodName)) ∈ BIG := big_mem (List.mem_append_right _ (List.mem_of_getElem? (i := 35) (by decide +kernel))) (by decide +kernel)
theorem w_36 : (Jvm.Cond.instanceMethod ({ cls := "RayField", name := "put", desc := "(IIII)I" } : Jvm.MethodName)) ∈ BIG := big_mem (List.mem_append_right _ (List.mem_of_getElem? (i := 36) (by decide +kernel))) (by decide +kernel)
theorem w_37 : (Jvm.Cond.selects "RayField" ({ cls := "RayField", name := "put", desc := "(IIII)I" } : Jvm.MethodName) ({ cls := "RayField", name := "put", desc := "(IIII)I" } : Jvm.MethodName)) ∈ BIG := big_mem (List.mem_append_right _ (List.mem_of_getElem? (i := 37) (by decide +kernel))) (by decide +kernel)
theorem w_38 : (Jvm.Cond.code ({ cls := "RayField", name := "put", desc := "(IIII)I" } : Jvm.MethodName) prog_1_method_2_code (7 : Nat) (Option.some Jvm.ClassFile.FieldType.int)) ∈ BIG := big_mem (List.mem_append_right _ (List.mem_of_getElem? (i := 38) (by decide +kernel))) (by decide +kernel)
theorem w_39 : (Jvm.Cond.methodLink "RayField" (21 : Nat) ({ cls := "RayField", name := "isPlace", desc := "(III)Z" } : Jvm.MethodName)) ∈ BIG := big_mem (List.mem_append_right _ (List.mem_of_getElem? (i := 39) (by decide +kernel))) (by decide +kernel)
theorem w_40 : (Jvm.Cond.static ({ cls := "RayField", name := "isPlace", desc := "(III)Z" } : Jvm.MethodName)) ∈ BIG := big_mem (List.mem_append_right _ (List.mem_of_getElem? (i := 40) (by decide +kernel))) (by decide +kernel)
theorem w_41 : (Jvm.Cond.code ({ cls := "RayField", name := "isPlace", desc := "(III)Z" } : Jvm.MethodName) prog_1_method_24_code (3 : Nat) (Option.some Jvm.ClassFile.FieldType.boolean)) ∈ BIG := big_mem (List.mem_append_right _ (List.mem_of_getElem? (i := 41) (by decide +kernel))) (by decide +kernel)
theorem w_42 : (Jvm.Cond.methodLink "RayField" (76 : Nat) ({ cls := "RayField", name := "isBetween", desc := "(III)Z" } : Jvm.MethodName)) ∈ BIG := big_mem (List.mem_append_right _ (List.mem_of_getElem? (i := 42) (by decide +kernel))) (by decide +kernel)
theorem w_43 : (Jvm.Cond.static ({ cls := "RayField", name := "isBetween", desc := "(III)Z" } : Jvm.MethodName)) ∈ BIG := big_mem (List.mem_append_right _ (List.mem_of_getElem? (i := 43) (by decide +kernel))) (by decide +kernel)
theorem w_44 : (Jvm.Cond.code ({ cls := "RayField", name := "isBetween", desc := "(III)Z" } : Jvm.MethodName) prog_1_method_25_code (3 : Nat) (Option.some Jvm.ClassFile.FieldType.boolean)) ∈ BIG := big_mem (List.mem_append_right _ (List.mem_of_getElem? (i := 44) (by decide +kernel))) (by decide +kernel)
theorem w_45 : (Jvm.Cond.methodLink "RayField" (25 : Nat) ({ cls := "RayField", name := "leastFreeNumber", desc := "()I" } : Jvm.MethodName)) ∈ BIG := big_mem (List.mem_append_right _ (List.mem_of_getElem? (i := 45) (by decide +kernel))) (by decide +kernel)
theorem w_47 : (Jvm.Cond.instanceMethod ({ cls := "RayField", name := "leastFreeNumber", desc := "()I" } : Jvm.MethodName)) ∈ BIG := big_mem (List.mem_append_right _ (List.mem_of_getElem? (i := 47) (by decide +kernel))) (by decide +kernel)
theorem w_48 : (Jvm.Cond.code ({ cls := "RayField", name := "leastFreeNumber", desc := "()I" } : Jvm.MethodName) prog_1_method_16_code (2 : Nat) (Option.some Jvm.ClassFile.FieldType.int)) ∈ BIG := big_mem (List.mem_append_right _ (List.mem_of_getElem? (i := 48) (by decide +kernel))) (by decide +kernel)
theorem w_49 : (Jvm.Cond.methodLink "RayField" (29 : Nat) ({ cls := "RayField", name := "isNumber", desc := "(I)Z" } : Jvm.MethodName)) ∈ BIG := big_mem (List.mem_append_right _ (List.mem_of_getElem? (i := 49) (by decide +kernel))) (by decide +kernel)
theorem w_50 : (Jvm.Cond.static ({ cls := "RayField", name := "isNumber", desc := "(I)Z" } : Jvm.MethodName)) ∈ BIG := big_mem (List.mem_append_right _ (List.mem_of_getElem? (i := 50) (by decide +kernel))) (by decide +kernel)
theorem w_51 : (Jvm.Cond.code ({ cls := "RayField", name := "isNumber", desc := "(I)Z" } : Jvm.MethodName) prog_1_method_23_code (1 : Nat) (Option.some Jvm.ClassFile.FieldType.boolean)) ∈ BIG := big_mem (List.mem_append_right _ (List.mem_of_getElem? (i := 51) (by decide +kernel))) (by decide +kernel)
theorem w_52 : (Jvm.Cond.instantiable "RayField$Wall" (4 : Nat)) ∈ BIG := big_mem (List.mem_append_right _ (List.mem_of_getElem? (i := 52) (by decide +kernel))) (by decide +kernel)
theorem w_53 : (Jvm.Cond.methodLink "RayField" (33 : Nat) ({ cls := "RayField$Wall", name := "<init>", desc := "(IIII)V" } : Jvm.MethodName)) ∈ BIG := big_mem (List.mem_append_right _ (List.mem_of_getElem? (i := 53) (by decide +kernel))) (by decide +kernel)
theorem w_54 : (Jvm.Cond.instanceMethod ({ cls := "RayField$Wall", name := "<init>", desc := "(IIII)V" } : Jvm.MethodName)) ∈ BIG := big_mem (List.mem_append_right _ (List.mem_of_getElem? (i := 54) (by decide +kernel))) (by decide +kernel)
theorem w_55 : (Jvm.Cond.code ({ cls := "RayField$Wall", name := "<init>", desc := "(IIII)V" } : Jvm.MethodName) prog_4_method_1_code (5 : Nat) (Option.none : Option Jvm.ClassFile.FieldType)) ∈ BIG := big_mem (List.mem_append_right _ (List.mem_of_getElem? (i := 55) (by decide +kernel))) (by decide +kernel)
theorem w_56 : (Jvm.Cond.methodLink "RayField$Wall" (1 : Nat) ({ cls := "java/lang/Object", name := "<init>", desc := "()V" } : Jvm.MethodName)) ∈ BIG := big_mem (List.mem_append_right _ (List.mem_of_getElem? (i := 56) (by decide +kernel))) (by decide +kernel)
theorem w_57 : (Jvm.Cond.fieldLink "RayField$Wall" (7 : Nat) "RayField$Wall" "ax" "I") ∈ BIG := big_mem (List.mem_append_right _ (List.mem_of_getElem? (i := 57) (by decide +kernel))) (by decide +kernel)
theorem w_58 : (Jvm.Cond.fieldLinkNest "RayField$Meeting" (9 : Nat) "RayField$Wall" "ax" "I" "RayField") ∈ lw_tbl := (List.mem_append_right _ (List.mem_of_getElem? (i := 58) (by decide +kernel)))
theorem w_59 : (Jvm.Cond.fieldLinkNest "RayField" (103 : Nat) "RayField$Wall" "ax" "I" "RayField") ∈ lw_tbl := (List.mem_append_right _ (List.mem_of_getElem? (i := 59) (by decide +kernel)))
theorem w_60 : (Jvm.Cond.fieldLink "RayField$Wall" (13 : Nat) "RayField$Wall" "ay" "I") ∈ BIG := big_mem (List.mem_append_right _ (List.mem_of_getElem? (i := 60) (by decide +kernel))) (by decide +kernel)
theorem w_61 : (Jvm.Cond.fieldLinkNest "RayField$Meeting" (15 : Nat) "RayField$Wall" "ay" "I" "RayField") ∈ lw_tbl := (List.mem_append_right _ (List.mem_of_getElem? (i := 61) (by decide +kernel)))
theorem w_62 : (Jvm.Cond.fieldLinkNest "RayField" (106 : Nat) "RayField$Wall" "ay" "I" "RayField") ∈ lw_tbl := (List.mem_append_right _ (List.mem_of_getElem? (i := 62) (by decide +kernel)))
theorem w_63 : (Jvm.Cond.fieldLink "RayField$Wall" (16 : Nat) "RayField$Wall" "bx" "I") ∈ BIG := big_mem (List.mem_append_right _ (List.mem_of_getElem? (i := 63) (by decide +kernel))) (by decide +kernel)
theorem w_64 : (Jvm.Cond.fieldLinkNest "RayField$Meeting" (24 : Nat) "RayField$Wall" "bx" "I" "RayField") ∈ lw_tbl := (List.mem_append_right _ (List.mem_of_getElem? (i := 64) (by decide +kernel)))
theorem w_65 : (Jvm.Cond.fieldLinkNest "RayField" (109 : Nat) "RayField$Wall" "bx" "I" "RayField") ∈ lw_tbl := (List.mem_append_right _ (List.mem_of_getElem? (i := 65) (by decide +kernel)))
theorem w_66 : (Jvm.Cond.fieldLink "RayField$Wall" (19 : Nat) "RayField$Wall" "by" "I") ∈ BIG := big_mem (List.mem_append_right _ (List.mem_of_getElem? (i := 66) (by decide +kernel))) (by decide +kernel)
theorem w_67 : (Jvm.Cond.fieldLinkNest "RayField$Meeting" (27 : Nat) "RayField$Wall" "by" "I" "RayField") ∈ lw_tbl := (List.mem_append_right _ (List.mem_of_getElem? (i := 67) (by decide +kernel)))
theorem w_68 : (Jvm.Cond.fieldLinkNest "RayField" (112 : Nat) "RayField$Wall" "by" "I" "RayField") ∈ lw_tbl := (List.mem_append_right _ (List.mem_of_getElem? (i := 68) (by decide +kernel)))
theorem w_69 : (Jvm.Cond.lays "RayField$Wall" "RayField$Wall" "ax" "I") ∈ BIG := big_mem (List.mem_append_right _ (List.mem_of_getElem? (i := 69) (by decide +kernel))) (by decide +kernel)
theorem w_71 : (Jvm.Cond.lays "RayField$Wall" "RayField$Wall" "ay" "I") ∈ BIG := big_mem (List.mem_append_right _ (List.mem_of_getElem? (i := 71) (by decide +kernel))) (by decide +kernel)
theorem w_73 : (Jvm.Cond.lays "RayField$Wall" "RayField$Wall" "bx" "I") ∈ BIG := big_mem (List.mem_append_right _ (List.mem_of_getElem? (i := 73) (by decide +kernel))) (by decide +kernel)
theorem w_75 : (Jvm.Cond.lays "RayField$Wall" "RayField$Wall" "by" "I") ∈ BIG := big_mem (List.mem_append_right _ (List.mem_of_getElem? (i := 75) (by decide +kernel))) (by decide +kernel)
theorem w_78 : (Jvm.Cond.methodLink "RayField" (36 : Nat) ({ cls := "RayField", name := "clashes", desc := "(LRayField$Wall;)Z" } : Jvm.MethodName)) ∈ BIG := big_mem (List.mem_append_right _ (List.mem_of_getElem? (i := 78) (by decide +kernel))) (by decide +kernel)
theorem w_80 : (Jvm.Cond.instanceMethod ({ cls := "RayField", name := "clashes", desc := "(LRayField$Wall;)Z" } : Jvm.MethodName)) ∈ BIG := big_mem (List.mem_append_right _ (List.mem_of_getElem? (i := 80) (by decide +kernel))) (by decide +kernel)
theorem w_81 : (Jvm.Cond.code ({ cls := "RayField", name := "clashes", desc := "(LRayField$Wall;)Z" } : Jvm.MethodName) prog_1_method_18_code (4 : Nat) (Option.some Jvm.ClassFile.FieldType.boolean)) ∈ BIG := big_mem (List.mem_append_right _ (List.mem_of_getElem? (i := 81) (by decide +kernel))) (by decide +kernel)
theorem w_82 : (Jvm.Cond.methodLink "RayField" (115 : Nat) ({ cls := "RayField$Wall", name := "clashesWith", desc := "(LRayField$Wall;)Z" } : Jvm.MethodName)) ∈ BIG := big_mem (List.mem_append_right _ (List.mem_of_getElem? (i := 82) (by decide +kernel))) (by decide +kernel)
theorem w_83 : (Jvm.Cond.instanceMethod ({ cls := "RayField$Wall", name := "clashesWith", desc := "(LRayField$Wall;)Z" } : Jvm.MethodName)) ∈ BIG := big_mem (List.mem_append_right _ (List.mem_of_getElem? (i := 83) (by decide +kernel))) (by decide +kernel)
theorem w_84 : (Jvm.Cond.selects "RayField$Wall" ({ cls := "RayField$Wall", name := "clashesWith", desc := "(LRayField$Wall;)Z" } : Jvm.MethodName) ({ cls := "RayField$Wall", name := "clashesWith", desc := "(LRayField$Wall;)Z" } : Jvm.MethodName)) ∈ BIG := big_mem (List.mem_append_right _ (List.mem_of_getElem? (i := 84) (by decide +kernel))) (by decide +kernel)
theorem w_85 : (Jvm.Cond.code ({ cls := "RayField$Wall", name := "clashesWith", desc := "(LRayField$Wall;)Z" } : Jvm.MethodName) prog_4_method_5_code (6 : Nat) (Option.some Jvm.ClassFile.FieldType.boolean)) ∈ BIG := big_mem (List.mem_append_right _ (List.mem_of_getElem? (i := 85) (by decide +kernel))) (by decide +kernel)
theorem w_86 : (Jvm.Cond.methodLink "RayField$Wall" (28 : Nat) ({ cls := "RayField$Wall", name := "side", desc := "(II)J" } : Jvm.MethodName)) ∈ BIG := big_mem (List.mem_append_right _ (List.mem_of_getElem? (i := 86) (by decide +kernel))) (by decide +kernel)
theorem w_87 : (Jvm.Cond.instanceMethod ({ cls := "RayField$Wall", name := "side", desc := "(II)J" } : Jvm.MethodName)) ∈ BIG := big_mem (List.mem_append_right _ (List.mem_of_getElem? (i := 87) (by decide +kernel))) (by decide +kernel)
theorem w_88 : (Jvm.Cond.selects "RayField$Wall" ({ cls := "RayField$Wall", name := "side", desc := "(II)J" } : Jvm.MethodName) ({ cls := "RayField$Wall", name := "side", desc := "(II)J" } : Jvm.MethodName)) ∈ BIG := big_mem (List.mem_append_right _ (List.mem_of_getElem? (i := 88) (by decide +kernel))) (by decide +kernel)
theorem w_89 : (Jvm.Cond.code ({ cls := "RayField$Wall", name := "side", desc := "(II)J" } : Jvm.MethodName) prog_4_method_3_code (3 : Nat) (Option.some Jvm.ClassFile.FieldType.long)) ∈ BIG := big_mem (List.mem_append_right _ (List.mem_of_getElem? (i := 89) (by decide +kernel))) (by decide +kernel)
theorem w_90 : (Jvm.Cond.methodLinkNest "RayField$Wall" (22 : Nat) ({ cls := "RayField", name := "cross", desc := "(JJJJ)J" } : Jvm.MethodName) "RayField") ∈ lw_tbl := (List.mem_append_right _ (List.mem_of_getElem? (i := 90) (by decide +kernel)))
theorem w_91 : (Jvm.Cond.static ({ cls := "RayField", name := "cross", desc := "(JJJJ)J" } : Jvm.MethodName)) ∈ BIG := big_mem (List.mem_append_right _ (List.mem_of_getElem? (i := 91) (by decide +kernel))) (by decide +kernel)
theorem w_92 : (Jvm.Cond.code ({ cls := "RayField", name := "cross", desc := "(JJJJ)J" } : Jvm.MethodName) prog_1_method_26_code (8 : Nat) (Option.some Jvm.ClassFile.FieldType.long)) ∈ BIG := big_mem (List.mem_append_right _ (List.mem_of_getElem? (i := 92) (by decide +kernel))) (by decide +kernel)
theorem w_93 : (Jvm.Cond.methodLink "RayField$Wall" (45 : Nat) ({ cls := "RayField$Wall", name := "overlapsOnItsLine", desc := "(LRayField$Wall;)Z" } : Jvm.MethodName)) ∈ BIG := big_mem (List.mem_append_right _ (List.mem_of_getElem? (i := 93) (by decide +kernel))) (by decide +kernel)
theorem w_95 : (Jvm.Cond.instanceMethod ({ cls := "RayField$Wall", name := "overlapsOnItsLine", desc := "(LRayField$Wall;)Z" } : Jvm.MethodName)) ∈ BIG := big_mem (List.mem_append_right _ (List.mem_of_getElem? (i := 95) (by decide +kernel))) (by decide +kernel)
theorem w_96 : (Jvm.Cond.code ({ cls := "RayField$Wall", name := "overlapsOnItsLine", desc := "(LRayField$Wall;)Z" } : Jvm.MethodName) prog_4_method_6_code (2 : Nat) (Option.some Jvm.ClassFile.FieldType.boolean)) ∈ BIG := big_mem (List.mem_append_right _ (List.mem_of_getElem? (i := 96) (by decide +kernel))) (by decide +kernel)
theorem w_97 : (Jvm.Cond.methodLink "RayField$Wall" (52 : Nat) ({ cls := "RayField$Wall", name := "commonLength", desc := "(IIII)I" } : Jvm.MethodName)) ∈ BIG := big_mem (List.mem_append_right _ (List.mem_of_getElem? (i := 97) (by decide +kernel))) (by decide +kernel)
theorem w_98 : (Jvm.Cond.static ({ cls := "RayField$Wall", name := "commonLength", desc := "(IIII)I" } : Jvm.MethodName)) ∈ BIG := big_mem (List.mem_append_right _ (List.mem_of_getElem? (i := 98) (by decide +kernel))) (by decide +kernel)
theorem w_99 : (Jvm.Cond.code ({ cls := "RayField$Wall", name := "commonLength", desc := "(IIII)I" } : Jvm.MethodName) prog_4_method_9_code (6 : Nat) (Option.some Jvm.ClassFile.FieldType.int)) ∈ BIG := big_mem (List.mem_append_right _ (List.mem_of_getElem? (i := 99) (by decide +kernel))) (by decide +kernel)
theorem w_100 : (Jvm.Cond.methodLink "RayField$Wall" (32 : Nat) ({ cls := "java/lang/Math", name := "min", desc := "(II)I" } : Jvm.MethodName)) ∈ BIG := big_mem (List.mem_append_right _ (List.mem_of_getElem? (i := 100) (by decide +kernel))) (by decide +kernel)
theorem w_101 : (Jvm.Cond.static ({ cls := "java/lang/Math", name := "min", desc := "(II)I" } : Jvm.MethodName)) ∈ BIG := big_mem (List.mem_append_right _ (List.mem_of_getElem? (i := 101) (by decide +kernel))) (by decide +kernel)
theorem w_102 : (Jvm.Cond.code ({ cls := "java/lang/Math", name := "min", desc := "(II)I" } : Jvm.MethodName) prog_7_method_69_code (2 : Nat) (Option.some Jvm.ClassFile.FieldType.int)) ∈ BIG := big_mem (List.mem_append_right _ (List.mem_of_getElem? (i := 102) (by decide +kernel))) (by decide +kernel)
theorem w_103 : (Jvm.Cond.methodLink "RayField$Wall" (38 : Nat) ({ cls := "java/lang/Math", name := "max", desc := "(II)I" } : Jvm.MethodName)) ∈ BIG := big_mem (List.mem_append_right _ (List.mem_of_getElem? (i := 103) (by decide +kernel))) (by decide +kernel)
theorem w_104 : (Jvm.Cond.static ({ cls := "java/lang/Math", name := "max", desc := "(II)I" } : Jvm.MethodName)) ∈ BIG := big_mem (List.mem_append_right _ (List.mem_of_getElem? (i := 104) (by decide +kernel))) (by decide +kernel)
theorem w_105 : (Jvm.Cond.code ({ cls := "java/lang/Math", name := "max", desc := "(II)I" } : Jvm.MethodName) prog_7_method_65_code (2 : Nat) (Option.some Jvm.ClassFile.FieldType.int)) ∈ BIG := big_mem (List.mem_append_right _ (List.mem_of_getElem? (i := 105) (by decide +kernel))) (by decide +kernel)
theorem w_106 : (Jvm.Cond.methodLink "RayField$Wall" (49 : Nat) ({ cls := "RayField$Wall", name := "sharesEndWith", desc := "(LRayField$Wall;)Z" } : Jvm.MethodName)) ∈ BIG := big_mem (List.mem_append_right _ (List.mem_of_getElem? (i := 106) (by decide +kernel))) (by decide +kernel)
theorem w_108 : (Jvm.Cond.instanceMethod ({ cls := "RayField$Wall", name := "sharesEndWith", desc := "(LRayField$Wall;)Z" } : Jvm.MethodName)) ∈ BIG := big_mem (List.mem_append_right _ (List.mem_of_getElem? (i := 108) (by decide +kernel))) (by decide +kernel)
theorem w_109 : (Jvm.Cond.code ({ cls := "RayField$Wall", name := "sharesEndWith", desc := "(LRayField$Wall;)Z" } : Jvm.MethodName) prog_4_method_7_code (2 : Nat) (Option.some Jvm.ClassFile.FieldType.boolean)) ∈ BIG := big_mem (List.mem_append_right _ (List.mem_of_getElem? (i := 109) (by decide +kernel))) (by decide +kernel)
theorem w_110 : (Jvm.Cond.methodLink "RayField$Wall" (56 : Nat) ({ cls := "RayField$Wall", name := "hasEnd", desc := "(II)Z" } : Jvm.MethodName)) ∈ BIG := big_mem (List.mem_append_right _ (List.mem_of_getElem? (i := 110) (by decide +kernel))) (by decide +kernel)
theorem w_112 : (Jvm.Cond.instanceMethod ({ cls := "RayField$Wall", name := "hasEnd", desc := "(II)Z" } : Jvm.MethodName)) ∈ BIG := big_mem (List.mem_append_right _ (List.mem_of_getElem? (i := 112) (by decide +kernel))) (by decide +kernel)
theorem w_113 : (Jvm.Cond.code ({ cls := "RayField$Wall", name := "hasEnd", desc := "(II)Z" } : Jvm.MethodName) prog_4_method_8_code (3 : Nat) (Option.some Jvm.ClassFile.FieldType.boolean)) ∈ BIG := big_mem (List.mem_append_right _ (List.mem_of_getElem? (i := 113) (by decide +kernel))) (by decide +kernel)
theorem w_114 : (Jvm.Cond.methodLink "RayField" (44 : Nat) ({ cls := "RayField", name := "meetAgain", desc := "()V" } : Jvm.MethodName)) ∈ BIG := big_mem (List.mem_append_right _ (List.mem_of_getElem? (i := 114) (by decide +kernel))) (by decide +kernel)
theorem w_116 : (Jvm.Cond.instanceMethod ({ cls := "RayField", name := "meetAgain", desc := "()V" } : Jvm.MethodName)) ∈ BIG := big_mem (List.mem_append_right _ (List.mem_of_getElem? (i := 116) (by decide +kernel))) (by decide +kernel)
theorem w_117 : (Jvm.Cond.code ({ cls := "RayField", name := "meetAgain", desc := "()V" } : Jvm.MethodName) prog_1_method_20_code (4 : Nat) (Option.none : Option Jvm.ClassFile.FieldType)) ∈ BIG := big_mem (List.mem_append_right _ (List.mem_of_getElem? (i := 117) (by decide +kernel))) (by decide +kernel)
theorem w_118 : (Jvm.Cond.methodLink "RayField" (118 : Nat) ({ cls := "RayField", name := "meetOne", desc := "(ILRayField$Wall;LRayField$Ray;)V" } : Jvm.MethodName)) ∈ BIG := big_mem (List.mem_append_right _ (List.mem_of_getElem? (i := 118) (by decide +kernel))) (by decide +kernel)
theorem w_120 : (Jvm.Cond.instanceMethod ({ cls := "RayField", name := "meetOne", desc := "(ILRayField$Wall;LRayField$Ray;)V" } : Jvm.MethodName)) ∈ BIG := big_mem (List.mem_append_right _ (List.mem_of_getElem? (i := 120) (by decide +kernel))) (by decide +kernel)
theorem w_121 : (Jvm.Cond.code ({ cls := "RayField", name := "meetOne", desc := "(ILRayField$Wall;LRayField$Ray;)V" } : Jvm.MethodName) prog_1_method_21_code (5 : Nat) (Option.none : Option Jvm.ClassFile.FieldType)) ∈ BIG := big_mem (List.mem_append_right _ (List.mem_of_getElem? (i := 121) (by decide +kernel))) (by decide +kernel)
theorem w_122 : (Jvm.Cond.instantiable "RayField$Meeting" (5 : Nat)) ∈ BIG := big_mem (List.mem_append_right _ (List.mem_of_getElem? (i := 122) (by decide +kernel))) (by decide +kernel)
theorem w_123 : (Jvm.Cond.methodLinkNest "RayField" (122 : Nat) ({ cls := "RayField$Meeting", name := "<init>", desc := "()V" } : Jvm.MethodName) "RayField") ∈ lw_tbl := (List.mem_append_right _ (List.mem_of_getElem? (i := 123) (by decide +kernel)))
theorem w_124 : (Jvm.Cond.instanceMethod ({ cls := "RayField$Meeting", name := "<init>", desc := "()V" } : Jvm.MethodName)) ∈ BIG := big_mem (List.mem_append_right _ (List.mem_of_getElem? (i := 124) (by decide +kernel))) (by decide +kernel)
theorem w_125 : (Jvm.Cond.code ({ cls := "RayField$Meeting", name := "<init>", desc := "()V" } : Jvm.MethodName) prog_2_method_1_code (1 : Nat) (Option.none : Option Jvm.ClassFile.FieldType)) ∈ BIG := big_mem (List.mem_append_right _ (List.mem_of_getElem? (i := 125) (by decide +kernel))) (by decide +kernel)
theorem w_126 : (Jvm.Cond.methodLink "RayField$Meeting" (3 : Nat) ({ cls := "java/lang/Object", name := "<init>", desc := "()V" } : Jvm.MethodName)) ∈ BIG := big_mem (List.mem_append_right _ (List.mem_of_getElem? (i := 126) (by decide +kernel))) (by decide +kernel)
theorem w_127 : (Jvm.Cond.fieldLink "RayField$Meeting" (37 : Nat) "RayField$Meeting" "number" "I") ∈ BIG := big_mem (List.mem_append_right _ (List.mem_of_getElem? (i := 127) (by decide +kernel))) (by decide +kernel)
theorem w_128 : (Jvm.Cond.fieldLinkNest "RayField" (68 : Nat) "RayField$Meeting" "number" "I" "RayField") ∈ lw_tbl := (List.mem_append_right _ (List.mem_of_getElem? (i := 128) (by decide +kernel)))
theorem w_129 : (Jvm.Cond.fieldLink "RayField$Meeting" (42 : Nat) "RayField$Meeting" "fromRight" "Z") ∈ BIG := big_mem (List.mem_append_right _ (List.mem_of_getElem? (i := 129) (by decide +kernel))) (by decide +kernel)
theorem w_130 : (Jvm.Cond.fieldLinkNest "RayField" (71 : Nat) "RayField$Meeting" "fromRight" "Z" "RayField") ∈ lw_tbl := (List.mem_append_right _ (List.mem_of_getElem? (i := 130) (by decide +kernel)))
theorem w_131 : (Jvm.Cond.fieldLink "RayField$Meeting" (52 : Nat) "RayField$Meeting" "distance" "J") ∈ BIG := big_mem (List.mem_append_right _ (List.mem_of_getElem? (i := 131) (by decide +kernel))) (by decide +kernel)
theorem w_132 : (Jvm.Cond.fieldLinkNest "RayField" (81 : Nat) "RayField$Meeting" "distance" "J" "RayField") ∈ lw_tbl := (List.mem_append_right _ (List.mem_of_getElem? (i := 132) (by decide +kernel)))
theorem w_133 : (Jvm.Cond.fieldLink "RayField$Meeting" (56 : Nat) "RayField$Meeting" "advance" "J") ∈ BIG := big_mem (List.mem_append_right _ (List.mem_of_getElem? (i := 133) (by decide +kernel))) (by decide +kernel)
theorem w_134 : (Jvm.Cond.fieldLinkNest "RayField" (91 : Nat) "RayField$Meeting" "advance" "J" "RayField") ∈ lw_tbl := (List.mem_append_right _ (List.mem_of_getElem? (i := 134) (by decide +kernel)))
theorem w_135 : (Jvm.Cond.fieldLink "RayField$Meeting" (59 : Nat) "RayField$Meeting" "divisor" "J") ∈ BIG := big_mem (List.mem_append_right _ (List.mem_of_getElem? (i := 135) (by decide +kernel))) (by decide +kernel)
theorem w_136 : (Jvm.Cond.lays "RayField$Meeting" "RayField$Meeting" "number" "I") ∈ BIG := big_mem (List.mem_append_right _ (List.mem_of_getElem? (i := 136) (by decide +kernel))) (by decide +kernel)
theorem w_138 : (Jvm.Cond.lays "RayField$Meeting" "RayField$Meeting" "fromRight" "Z") ∈ BIG := big_mem (List.mem_append_right _ (List.mem_of_getElem? (i := 138) (by decide +kernel))) (by decide +kernel)
theorem w_140 : (Jvm.Cond.lays "RayField$Meeting" "RayField$Meeting" "distance" "J") ∈ BIG := big_mem (List.mem_append_right _ (List.mem_of_getElem? (i := 140) (by decide +kernel))) (by decide +kernel)
theorem w_142 : (Jvm.Cond.lays "RayField$Meeting" "RayField$Meeting" "advance" "J") ∈ BIG := big_mem (List.mem_append_right _ (List.mem_of_getElem? (i := 142) (by decide +kernel))) (by decide +kernel)
theorem w_144 : (Jvm.Cond.lays "RayField$Meeting" "RayField$Meeting" "divisor" "J") ∈ BIG := big_mem (List.mem_append_right _ (List.mem_of_getElem? (i := 144) (by decide +kernel))) (by decide +kernel)
theorem w_147 : (Jvm.Cond.methodLink "RayField" (123 : Nat) ({ cls := "RayField$Meeting", name := "fill", desc := "(ILRayField$Wall;LRayField$Ray;)Z" } : Jvm.MethodName)) ∈ BIG := big_mem (List.mem_append_right _ (List.mem_of_getElem? (i := 147) (by decide +kernel))) (by decide +kernel)
theorem w_148 : (Jvm.Cond.instanceMethod ({ cls := "RayField$Meeting", name := "fill", desc := "(ILRayField$Wall;LRayField$Ray;)Z" } : Jvm.MethodName)) ∈ BIG := big_mem (List.mem_append_right _ (List.mem_of_getElem? (i := 148) (by decide +kernel))) (by decide +kernel)
theorem w_149 : (Jvm.Cond.selects "RayField$Meeting" ({ cls := "RayField$Meeting", name := "fill", desc := "(ILRayField$Wall;LRayField$Ray;)Z" } : Jvm.MethodName) ({ cls := "RayField$Meeting", name := "fill", desc := "(ILRayField$Wall;LRayField$Ray;)Z" } : Jvm.MethodName)) ∈ BIG := big_mem (List.mem_append_right _ (List.mem_of_getElem? (i := 149) (by decide +kernel))) (by decide +kernel)
theorem w_150 : (Jvm.Cond.code ({ cls := "RayField$Meeting", name := "fill", desc := "(ILRayField$Wall;LRayField$Ray;)Z" } : Jvm.MethodName) prog_2_method_2_code (12 : Nat) (Option.some Jvm.ClassFile.FieldType.boolean)) ∈ BIG := big_mem (List.mem_append_right _ (List.mem_of_getElem? (i := 150) (by decide +kernel))) (by decide +kernel)
theorem w_151 : (Jvm.Cond.methodLink "RayField$Meeting" (18 : Nat) ({ cls := "RayField$Ray", name := "side", desc := "(II)J" } : Jvm.MethodName)) ∈ BIG := big_mem (List.mem_append_right _ (List.mem_of_getElem? (i := 151) (by decide +kernel))) (by decide +kernel)
theorem w_152 : (Jvm.Cond.instanceMethod ({ cls := "RayField$Ray", name := "side", desc := "(II)J" } : Jvm.MethodName)) ∈ BIG := big_mem (List.mem_append_right _ (List.mem_of_getElem? (i := 152) (by decide +kernel))) (by decide +kernel)
theorem w_153 : (Jvm.Cond.selects "RayField$Ray" ({ cls := "RayField$Ray", name := "side", desc := "(II)J" } : Jvm.MethodName) ({ cls := "RayField$Ray", name := "side", desc := "(II)J" } : Jvm.MethodName)) ∈ BIG := big_mem (List.mem_append_right _ (List.mem_of_getElem? (i := 153) (by decide +kernel))) (by decide +kernel)
theorem w_154 : (Jvm.Cond.code ({ cls := "RayField$Ray", name := "side", desc := "(II)J" } : Jvm.MethodName) prog_3_method_2_code (3 : Nat) (Option.some Jvm.ClassFile.FieldType.long)) ∈ BIG := big_mem (List.mem_append_right _ (List.mem_of_getElem? (i := 154) (by decide +kernel))) (by decide +kernel)
theorem w_155 : (Jvm.Cond.methodLinkNest "RayField$Ray" (22 : Nat) ({ cls := "RayField", name := "cross", desc := "(JJJJ)J" } : Jvm.MethodName) "RayField") ∈ lw_tbl := (List.mem_append_right _ (List.mem_of_getElem? (i := 155) (by decide +kernel)))
theorem w_156 : (Jvm.Cond.methodLink "RayField$Meeting" (36 : Nat) ({ cls := "RayField$Wall", name := "side", desc := "(II)J" } : Jvm.MethodName)) ∈ BIG := big_mem (List.mem_append_right _ (List.mem_of_getElem? (i := 156) (by decide +kernel))) (by decide +kernel)
theorem w_157 : (Jvm.Cond.methodLink "RayField$Meeting" (46 : Nat) ({ cls := "java/lang/Math", name := "abs", desc := "(J)J" } : Jvm.MethodName)) ∈ BIG := big_mem (List.mem_append_right _ (List.mem_of_getElem? (i := 157) (by decide +kernel))) (by decide +kernel)
theorem w_158 : (Jvm.Cond.static ({ cls := "java/lang/Math", name := "abs", desc := "(J)J" } : Jvm.MethodName)) ∈ BIG := big_mem (List.mem_append_right _ (List.mem_of_getElem? (i := 158) (by decide +kernel))) (by decide +kernel)
theorem w_159 : (Jvm.Cond.code ({ cls := "java/lang/Math", name := "abs", desc := "(J)J" } : Jvm.MethodName) prog_7_method_61_code (2 : Nat) (Option.some Jvm.ClassFile.FieldType.long)) ∈ BIG := big_mem (List.mem_append_right _ (List.mem_of_getElem? (i := 159) (by decide +kernel))) (by decide +kernel)
theorem w_160 : (Jvm.Cond.methodLink "RayField" (127 : Nat) ({ cls := "RayField", name := "sortIn", desc := "(LRayField$Meeting;)V" } : Jvm.MethodName)) ∈ BIG := big_mem (List.mem_append_right _ (List.mem_of_getElem? (i := 160) (by decide +kernel))) (by decide +kernel)
theorem w_162 : (Jvm.Cond.instanceMethod ({ cls := "RayField", name := "sortIn", desc := "(LRayField$Meeting;)V" } : Jvm.MethodName)) ∈ BIG := big_mem (List.mem_append_right _ (List.mem_of_getElem? (i := 162) (by decide +kernel))) (by decide +kernel)
theorem w_163 : (Jvm.Cond.code ({ cls := "RayField", name := "sortIn", desc := "(LRayField$Meeting;)V" } : Jvm.MethodName) prog_1_method_22_code (4 : Nat) (Option.none : Option Jvm.ClassFile.FieldType)) ∈ BIG := big_mem (List.mem_append_right _ (List.mem_of_getElem? (i := 163) (by decide +kernel))) (by decide +kernel)
theorem w_164 : (Jvm.Cond.methodLink "RayField" (131 : Nat) ({ cls := "RayField$Meeting", name := "isNearerThan", desc := "(LRayField$Meeting;)Z" } : Jvm.MethodName)) ∈ BIG := big_mem (List.mem_append_right _ (List.mem_of_getElem? (i := 164) (by decide +kernel))) (by decide +kernel)
theorem w_165 : (Jvm.Cond.instanceMethod ({ cls := "RayField$Meeting", name := "isNearerThan", desc := "(LRayField$Meeting;)Z" } : Jvm.MethodName)) ∈ BIG := big_mem (List.mem_append_right _ (List.mem_of_getElem? (i := 165) (by decide +kernel))) (by decide +kernel)
theorem w_166 : (Jvm.Cond.selects "RayField$Meeting" ({ cls := "RayField$Meeting", name := "isNearerThan", desc := "(LRayField$Meeting;)Z" } : Jvm.MethodName) ({ cls := "RayField$Meeting", name := "isNearerThan", desc := "(LRayField$Meeting;)Z" } : Jvm.MethodName)) ∈ BIG := big_mem (List.mem_append_right _ (List.mem_of_getElem? (i := 166) (by decide +kernel))) (by decide +kernel)
theorem w_167 : (Jvm.Cond.code ({ cls := "RayField$Meeting", name := "isNearerThan", desc := "(LRayField$Meeting;)Z" } : Jvm.MethodName) prog_2_method_3_code (2 : Nat) (Option.some Jvm.ClassFile.FieldType.boolean)) ∈ BIG := big_mem (List.mem_append_right _ (List.mem_of_getElem? (i := 167) (by decide +kernel))) (by decide +kernel)
theorem w_168 : (Jvm.Cond.methodLink "RayFieldLaw" (18 : Nat) ({ cls := "RayField", name := "take", desc := "(I)Z" } : Jvm.MethodName)) ∈ BIG := big_mem (List.mem_append_right _ (List.mem_of_getElem? (i := 168) (by decide +kernel))) (by decide +kernel)
theorem w_169 : (Jvm.Cond.instanceMethod ({ cls := "RayField", name := "take", desc := "(I)Z" } : Jvm.MethodName)) ∈ BIG := big_mem (List.mem_append_right _ (List.mem_of_getElem? (i := 169) (by decide +kernel))) (by decide +kernel)
theorem w_170 : (Jvm.Cond.selects "RayField" ({ cls := "RayField", name := "take", desc := "(I)Z" } : Jvm.MethodName) ({ cls := "RayField", name := "take", desc := "(I)Z" } : Jvm.MethodName)) ∈ BIG := big_mem (List.mem_append_right _ (List.mem_of_getElem? (i := 170) (by decide +kernel))) (by decide +kernel)
theorem w_171 : (Jvm.Cond.code ({ cls := "RayField", name := "take", desc := "(I)Z" } : Jvm.MethodName) prog_1_method_3_code (2 : Nat) (Option.some Jvm.ClassFile.FieldType.boolean)) ∈ BIG := big_mem (List.mem_append_right _ (List.mem_of_getElem? (i := 171) (by decide +kernel))) (by decide +kernel)
theorem w_172 : (Jvm.Cond.methodLink "RayField" (47 : Nat) ({ cls := "RayField", name := "wallNumbered", desc := "(I)LRayField$Wall;" } : Jvm.MethodName)) ∈ BIG := big_mem (List.mem_append_right _ (List.mem_of_getElem? (i := 172) (by decide +kernel))) (by decide +kernel)
theorem w_174 : (Jvm.Cond.instanceMethod ({ cls := "RayField", name := "wallNumbered", desc := "(I)LRayField$Wall;" } : Jvm.MethodName)) ∈ BIG := big_mem (List.mem_append_right _ (List.mem_of_getElem? (i := 174) (by decide +kernel))) (by decide +kernel)
theorem w_175 : (Jvm.Cond.code ({ cls := "RayField", name := "wallNumbered", desc := "(I)LRayField$Wall;" } : Jvm.MethodName) prog_1_method_17_code (2 : Nat) (Option.some (Jvm.ClassFile.FieldType.object "RayField$Wall"))) ∈ BIG := big_mem (List.mem_append_right _ (List.mem_of_getElem? (i := 175) (by decide +kernel))) (by decide +kernel)
theorem w_176 : (Jvm.Cond.methodLink "RayFieldLaw" (23 : Nat) ({ cls := "RayField", name := "turn", desc := "(I)Z" } : Jvm.MethodName)) ∈ BIG := big_mem (List.mem_append_right _ (List.mem_of_getElem? (i := 176) (by decide +kernel))) (by decide +kernel)
theorem w_177 : (Jvm.Cond.instanceMethod ({ cls := "RayField", name := "turn", desc := "(I)Z" } : Jvm.MethodName)) ∈ BIG := big_mem (List.mem_append_right _ (List.mem_of_getElem? (i := 177) (by decide +kernel))) (by decide +kernel)
theorem w_178 : (Jvm.Cond.selects "RayField" ({ cls := "RayField", name := "turn", desc := "(I)Z" } : Jvm.MethodName) ({ cls := "RayField", name := "turn", desc := "(I)Z" } : Jvm.MethodName)) ∈ BIG := big_mem (List.mem_append_right _ (List.mem_of_getElem? (i := 178) (by decide +kernel))) (by decide +kernel)
theorem w_179 : (Jvm.Cond.code ({ cls := "RayField", name := "turn", desc := "(I)Z" } : Jvm.MethodName) prog_1_method_4_code (3 : Nat) (Option.some Jvm.ClassFile.FieldType.boolean)) ∈ BIG := big_mem (List.mem_append_right _ (List.mem_of_getElem? (i := 179) (by decide +kernel))) (by decide +kernel)
theorem w_180 : (Jvm.Cond.methodLink "RayField" (51 : Nat) ({ cls := "RayField$Wall", name := "exchangeEnds", desc := "()V" } : Jvm.MethodName)) ∈ BIG := big_mem (List.mem_append_right _ (List.mem_of_getElem? (i := 180) (by decide +kernel))) (by decide +kernel)
theorem w_181 : (Jvm.Cond.instanceMethod ({ cls := "RayField$Wall", name := "exchangeEnds", desc := "()V" } : Jvm.MethodName)) ∈ BIG := big_mem (List.mem_append_right _ (List.mem_of_getElem? (i := 181) (by decide +kernel))) (by decide +kernel)
theorem w_182 : (Jvm.Cond.selects "RayField$Wall" ({ cls := "RayField$Wall", name := "exchangeEnds", desc := "()V" } : Jvm.MethodName) ({ cls := "RayField$Wall", name := "exchangeEnds", desc := "()V" } : Jvm.MethodName)) ∈ BIG := big_mem (List.mem_append_right _ (List.mem_of_getElem? (i := 182) (by decide +kernel))) (by decide +kernel)
theorem w_183 : (Jvm.Cond.code ({ cls := "RayField$Wall", name := "exchangeEnds", desc := "()V" } : Jvm.MethodName) prog_4_method_2_code (3 : Nat) (Option.none : Option Jvm.ClassFile.FieldType)) ∈ BIG := big_mem (List.mem_append_right _ (List.mem_of_getElem? (i := 183) (by decide +kernel))) (by decide +kernel)
theorem w_184 : (Jvm.Cond.methodLink "RayFieldLaw" (27 : Nat) ({ cls := "RayField", name := "clear", desc := "()V" } : Jvm.MethodName)) ∈ BIG := big_mem (List.mem_append_right _ (List.mem_of_getElem? (i := 184) (by decide +kernel))) (by decide +kernel)
theorem w_185 : (Jvm.Cond.instanceMethod ({ cls := "RayField", name := "clear", desc := "()V" } : Jvm.MethodName)) ∈ BIG := big_mem (List.mem_append_right _ (List.mem_of_getElem? (i := 185) (by decide +kernel))) (by decide +kernel)
theorem w_186 : (Jvm.Cond.selects "RayField" ({ cls := "RayField", name := "clear", desc := "()V" } : Jvm.MethodName) ({ cls := "RayField", name := "clear", desc := "()V" } : Jvm.MethodName)) ∈ BIG := big_mem (List.mem_append_right _ (List.mem_of_getElem? (i := 186) (by decide +kernel))) (by decide +kernel)
theorem w_187 : (Jvm.Cond.code ({ cls := "RayField", name := "clear", desc := "()V" } : Jvm.MethodName) prog_1_method_5_code (2 : Nat) (Option.none : Option Jvm.ClassFile.FieldType)) ∈ BIG := big_mem (List.mem_append_right _ (List.mem_of_getElem? (i := 187) (by decide +kernel))) (by decide +kernel)
theorem w_188 : (Jvm.Cond.methodLink "RayFieldLaw" (31 : Nat) ({ cls := "RayField", name := "ray", desc := "(IIII)Z" } : Jvm.MethodName)) ∈ BIG := big_mem (List.mem_append_right _ (List.mem_of_getElem? (i := 188) (by decide +kernel))) (by decide +kernel)
theorem w_189 : (Jvm.Cond.instanceMethod ({ cls := "RayField", name := "ray", desc := "(IIII)Z" } : Jvm.MethodName)) ∈ BIG := big_mem (List.mem_append_right _ (List.mem_of_getElem? (i := 189) (by decide +kernel))) (by decide +kernel)
theorem w_190 : (Jvm.Cond.selects "RayField" ({ cls := "RayField", name := "ray", desc := "(IIII)Z" } : Jvm.MethodName) ({ cls := "RayField", name := "ray", desc := "(IIII)Z" } : Jvm.MethodName)) ∈ BIG := big_mem (List.mem_append_right _ (List.mem_of_getElem? (i := 190) (by decide +kernel))) (by decide +kernel)
theorem w_191 : (Jvm.Cond.code ({ cls := "RayField", name := "ray", desc := "(IIII)Z" } : Jvm.MethodName) prog_1_method_6_code (5 : Nat) (Option.some Jvm.ClassFile.FieldType.boolean)) ∈ BIG := big_mem (List.mem_append_right _ (List.mem_of_getElem? (i := 191) (by decide +kernel))) (by decide +kernel)
theorem w_192 : (Jvm.Cond.classLink "RayField" (54 : Nat) "RayField$Ray") ∈ BIG := big_mem (List.mem_append_right _ (List.mem_of_getElem? (i := 192) (by decide +kernel))) (by decide +kernel)
theorem w_193 : (Jvm.Cond.instantiable "RayField$Ray" (4 : Nat)) ∈ BIG := big_mem (List.mem_append_right _ (List.mem_of_getElem? (i := 193) (by decide +kernel))) (by decide +kernel)
theorem w_194 : (Jvm.Cond.methodLink "RayField" (56 : Nat) ({ cls := "RayField$Ray", name := "<init>", desc := "(IIII)V" } : Jvm.MethodName)) ∈ BIG := big_mem (List.mem_append_right _ (List.mem_of_getElem? (i := 194) (by decide +kernel))) (by decide +kernel)
theorem w_195 : (Jvm.Cond.instanceMethod ({ cls := "RayField$Ray", name := "<init>", desc := "(IIII)V" } : Jvm.MethodName)) ∈ BIG := big_mem (List.mem_append_right _ (List.mem_of_getElem? (i := 195) (by decide +kernel))) (by decide +kernel)
theorem w_196 : (Jvm.Cond.code ({ cls := "RayField$Ray", name := "<init>", desc := "(IIII)V" } : Jvm.MethodName) prog_3_method_1_code (5 : Nat) (Option.none : Option Jvm.ClassFile.FieldType)) ∈ BIG := big_mem (List.mem_append_right _ (List.mem_of_getElem? (i := 196) (by decide +kernel))) (by decide +kernel)
theorem w_197 : (Jvm.Cond.methodLink "RayField$Ray" (1 : Nat) ({ cls := "java/lang/Object", name := "<init>", desc := "()V" } : Jvm.MethodName)) ∈ BIG := big_mem (List.mem_append_right _ (List.mem_of_getElem? (i := 197) (by decide +kernel))) (by decide +kernel)
theorem w_198 : (Jvm.Cond.fieldLink "RayField$Ray" (7 : Nat) "RayField$Ray" "ex" "I") ∈ BIG := big_mem (List.mem_append_right _ (List.mem_of_getElem? (i := 198) (by decide +kernel))) (by decide +kernel)
theorem w_199 : (Jvm.Cond.fieldLinkNest "RayField$Meeting" (30 : Nat) "RayField$Ray" "ex" "I" "RayField") ∈ lw_tbl := (List.mem_append_right _ (List.mem_of_getElem? (i := 199) (by decide +kernel)))
theorem w_200 : (Jvm.Cond.fieldLink "RayField$Ray" (13 : Nat) "RayField$Ray" "ey" "I") ∈ BIG := big_mem (List.mem_append_right _ (List.mem_of_getElem? (i := 200) (by decide +kernel))) (by decide +kernel)
theorem w_201 : (Jvm.Cond.fieldLinkNest "RayField$Meeting" (33 : Nat) "RayField$Ray" "ey" "I" "RayField") ∈ lw_tbl := (List.mem_append_right _ (List.mem_of_getElem? (i := 201) (by decide +kernel)))
theorem w_202 : (Jvm.Cond.fieldLink "RayField$Ray" (16 : Nat) "RayField$Ray" "dx" "I") ∈ BIG := big_mem (List.mem_append_right _ (List.mem_of_getElem? (i := 202) (by decide +kernel))) (by decide +kernel)
theorem w_203 : (Jvm.Cond.fieldLink "RayField$Ray" (19 : Nat) "RayField$Ray" "dy" "I") ∈ BIG := big_mem (List.mem_append_right _ (List.mem_of_getElem? (i := 203) (by decide +kernel))) (by decide +kernel)
theorem w_204 : (Jvm.Cond.laysFinal "RayField$Ray" "RayField$Ray" "ex" "I") ∈ BIG := big_mem (List.mem_append_right _ (List.mem_of_getElem? (i := 204) (by decide +kernel))) (by decide +kernel)
theorem w_206 : (Jvm.Cond.laysFinal "RayField$Ray" "RayField$Ray" "ey" "I") ∈ BIG := big_mem (List.mem_append_right _ (List.mem_of_getElem? (i := 206) (by decide +kernel))) (by decide +kernel)
theorem w_208 : (Jvm.Cond.laysFinal "RayField$Ray" "RayField$Ray" "dx" "I") ∈ BIG := big_mem (List.mem_append_right _ (List.mem_of_getElem? (i := 208) (by decide +kernel))) (by decide +kernel)
theorem w_210 : (Jvm.Cond.laysFinal "RayField$Ray" "RayField$Ray" "dy" "I") ∈ BIG := big_mem (List.mem_append_right _ (List.mem_of_getElem? (i := 210) (by decide +kernel))) (by decide +kernel)
theorem w_213 : (Jvm.Cond.methodLink "RayFieldLaw" (36 : Nat) ({ cls := "RayField", name := "met", desc := "()I" } : Jvm.MethodName)) ∈ BIG := big_mem (List.mem_append_right _ (List.mem_of_getElem? (i := 213) (by decide +kernel))) (by decide +kernel)
theorem w_214 : (Jvm.Cond.instanceMethod ({ cls := "RayField", name := "met", desc := "()I" } : Jvm.MethodName)) ∈ BIG := big_mem (List.mem_append_right _ (List.mem_of_getElem? (i := 214) (by decide +kernel))) (by decide +kernel)
theorem w_215 : (Jvm.Cond.selects "RayField" ({ cls := "RayField", name := "met", desc := "()I" } : Jvm.MethodName) ({ cls := "RayField", name := "met", desc := "()I" } : Jvm.MethodName)) ∈ BIG := big_mem (List.mem_append_right _ (List.mem_of_getElem? (i := 215) (by decide +kernel))) (by decide +kernel)
theorem w_216 : (Jvm.Cond.code ({ cls := "RayField", name := "met", desc := "()I" } : Jvm.MethodName) prog_1_method_7_code (1 : Nat) (Option.some Jvm.ClassFile.FieldType.int)) ∈ BIG := big_mem (List.mem_append_right _ (List.mem_of_getElem? (i := 216) (by decide +kernel))) (by decide +kernel)
theorem w_217 : (Jvm.Cond.methodLink "RayFieldLaw" (41 : Nat) ({ cls := "RayField", name := "wall", desc := "(I)I" } : Jvm.MethodName)) ∈ BIG := big_mem (List.mem_append_right _ (List.mem_of_getElem? (i := 217) (by decide +kernel))) (by decide +kernel)
theorem w_218 : (Jvm.Cond.instanceMethod ({ cls := "RayField", name := "wall", desc := "(I)I" } : Jvm.MethodName)) ∈ BIG := big_mem (List.mem_append_right _ (List.mem_of_getElem? (i := 218) (by decide +kernel))) (by decide +kernel)
theorem w_219 : (Jvm.Cond.selects "RayField" ({ cls := "RayField", name := "wall", desc := "(I)I" } : Jvm.MethodName) ({ cls := "RayField", name := "wall", desc := "(I)I" } : Jvm.MethodName)) ∈ BIG := big_mem (List.mem_append_right _ (List.mem_of_getElem? (i := 219) (by decide +kernel))) (by decide +kernel)
theorem w_220 : (Jvm.Cond.code ({ cls := "RayField", name := "wall", desc := "(I)I" } : Jvm.MethodName) prog_1_method_8_code (3 : Nat) (Option.some Jvm.ClassFile.FieldType.int)) ∈ BIG := big_mem (List.mem_append_right _ (List.mem_of_getElem? (i := 220) (by decide +kernel))) (by decide +kernel)
theorem w_221 : (Jvm.Cond.methodLink "RayField" (64 : Nat) ({ cls := "RayField", name := "meetingAt", desc := "(I)LRayField$Meeting;" } : Jvm.MethodName)) ∈ BIG := big_mem (List.mem_append_right _ (List.mem_of_getElem? (i := 221) (by decide +kernel))) (by decide +kernel)
theorem w_223 : (Jvm.Cond.instanceMethod ({ cls := "RayField", name := "meetingAt", desc := "(I)LRayField$Meeting;" } : Jvm.MethodName)) ∈ BIG := big_mem (List.mem_append_right _ (List.mem_of_getElem? (i := 223) (by decide +kernel))) (by decide +kernel)
theorem w_224 : (Jvm.Cond.code ({ cls := "RayField", name := "meetingAt", desc := "(I)LRayField$Meeting;" } : Jvm.MethodName) prog_1_method_19_code (2 : Nat) (Option.some (Jvm.ClassFile.FieldType.object "RayField$Meeting"))) ∈ BIG := big_mem (List.mem_append_right _ (List.mem_of_getElem? (i := 224) (by decide +kernel))) (by decide +kernel)
theorem w_225 : (Jvm.Cond.methodLink "RayFieldLaw" (46 : Nat) ({ cls := "RayField", name := "isRight", desc := "(I)Z" } : Jvm.MethodName)) ∈ BIG := big_mem (List.mem_append_right _ (List.mem_of_getElem? (i := 225) (by decide +kernel))) (by decide +kernel)
theorem w_226 : (Jvm.Cond.instanceMethod ({ cls := "RayField", name := "isRight", desc := "(I)Z" } : Jvm.MethodName)) ∈ BIG := big_mem (List.mem_append_right _ (List.mem_of_getElem? (i := 226) (by decide +kernel))) (by decide +kernel)
theorem w_227 : (Jvm.Cond.selects "RayField" ({ cls := "RayField", name := "isRight", desc := "(I)Z" } : Jvm.MethodName) ({ cls := "RayField", name := "isRight", desc := "(I)Z" } : Jvm.MethodName)) ∈ BIG := big_mem (List.mem_append_right _ (List.mem_of_getElem? (i := 227) (by decide +kernel))) (by decide +kernel)
theorem w_228 : (Jvm.Cond.code ({ cls := "RayField", name := "isRight", desc := "(I)Z" } : Jvm.MethodName) prog_1_method_9_code (3 : Nat) (Option.some Jvm.ClassFile.FieldType.boolean)) ∈ BIG := big_mem (List.mem_append_right _ (List.mem_of_getElem? (i := 228) (by decide +kernel))) (by decide +kernel)
theorem w_229 : (Jvm.Cond.methodLink "RayFieldLaw" (50 : Nat) ({ cls := "RayField", name := "times", desc := "(II)J" } : Jvm.MethodName)) ∈ BIG := big_mem (List.mem_append_right _ (List.mem_of_getElem? (i := 229) (by decide +kernel))) (by decide +kernel)
theorem w_230 : (Jvm.Cond.instanceMethod ({ cls := "RayField", name := "times", desc := "(II)J" } : Jvm.MethodName)) ∈ BIG := big_mem (List.mem_append_right _ (List.mem_of_getElem? (i := 230) (by decide +kernel))) (by decide +kernel)
theorem w_231 : (Jvm.Cond.selects "RayField" ({ cls := "RayField", name := "times", desc := "(II)J" } : Jvm.MethodName) ({ cls := "RayField", name := "times", desc := "(II)J" } : Jvm.MethodName)) ∈ BIG := big_mem (List.mem_append_right _ (List.mem_of_getElem? (i := 231) (by decide +kernel))) (by decide +kernel)
theorem w_232 : (Jvm.Cond.code ({ cls := "RayField", name := "times", desc := "(II)J" } : Jvm.MethodName) prog_1_method_10_code (4 : Nat) (Option.some Jvm.ClassFile.FieldType.long)) ∈ BIG := big_mem (List.mem_append_right _ (List.mem_of_getElem? (i := 232) (by decide +kernel))) (by decide +kernel)
theorem w_233 : (Jvm.Cond.constant "RayField" (75 : Nat) (1000000 : Int32)) ∈ BIG := big_mem (List.mem_append_right _ (List.mem_of_getElem? (i := 233) (by decide +kernel))) (by decide +kernel)
theorem w_234 : (Jvm.Cond.constantLong "RayField" (79 : Nat) (-1 : Int64)) ∈ BIG := big_mem (List.mem_append_right _ (List.mem_of_getElem? (i := 234) (by decide +kernel))) (by decide +kernel)
theorem w_235 : (Jvm.Cond.methodLink "RayField" (85 : Nat) ({ cls := "RayField$Meeting", name := "roundedDown", desc := "(J)J" } : Jvm.MethodName)) ∈ BIG := big_mem (List.mem_append_right _ (List.mem_of_getElem? (i := 235) (by decide +kernel))) (by decide +kernel)
theorem w_236 : (Jvm.Cond.instanceMethod ({ cls := "RayField$Meeting", name := "roundedDown", desc := "(J)J" } : Jvm.MethodName)) ∈ BIG := big_mem (List.mem_append_right _ (List.mem_of_getElem? (i := 236) (by decide +kernel))) (by decide +kernel)
theorem w_237 : (Jvm.Cond.selects "RayField$Meeting" ({ cls := "RayField$Meeting", name := "roundedDown", desc := "(J)J" } : Jvm.MethodName) ({ cls := "RayField$Meeting", name := "roundedDown", desc := "(J)J" } : Jvm.MethodName)) ∈ BIG := big_mem (List.mem_append_right _ (List.mem_of_getElem? (i := 237) (by decide +kernel))) (by decide +kernel)
theorem w_238 : (Jvm.Cond.code ({ cls := "RayField$Meeting", name := "roundedDown", desc := "(J)J" } : Jvm.MethodName) prog_2_method_5_code (3 : Nat) (Option.some Jvm.ClassFile.FieldType.long)) ∈ BIG := big_mem (List.mem_append_right _ (List.mem_of_getElem? (i := 238) (by decide +kernel))) (by decide +kernel)
theorem w_239 : (Jvm.Cond.methodLink "RayField$Meeting" (62 : Nat) ({ cls := "java/lang/Math", name := "floorDiv", desc := "(JJ)J" } : Jvm.MethodName)) ∈ BIG := big_mem (List.mem_append_right _ (List.mem_of_getElem? (i := 239) (by decide +kernel))) (by decide +kernel)
theorem w_240 : (Jvm.Cond.static ({ cls := "java/lang/Math", name := "floorDiv", desc := "(JJ)J" } : Jvm.MethodName)) ∈ BIG := big_mem (List.mem_append_right _ (List.mem_of_getElem? (i := 240) (by decide +kernel))) (by decide +kernel)
theorem w_241 : (Jvm.Cond.code ({ cls := "java/lang/Math", name := "floorDiv", desc := "(JJ)J" } : Jvm.MethodName) prog_7_method_49_code (6 : Nat) (Option.some Jvm.ClassFile.FieldType.long)) ∈ BIG := big_mem (List.mem_append_right _ (List.mem_of_getElem? (i := 241) (by decide +kernel))) (by decide +kernel)
theorem w_242 : (Jvm.Cond.constantLong "RayField$Meeting" (66 : Nat) (-1 : Int64)) ∈ BIG := big_mem (List.mem_append_right _ (List.mem_of_getElem? (i := 242) (by decide +kernel))) (by decide +kernel)
theorem w_243 : (Jvm.Cond.methodLink "RayFieldLaw" (55 : Nat) ({ cls := "RayField", name := "along", desc := "(I)I" } : Jvm.MethodName)) ∈ BIG := big_mem (List.mem_append_right _ (List.mem_of_getElem? (i := 243) (by decide +kernel))) (by decide +kernel)
theorem w_244 : (Jvm.Cond.instanceMethod ({ cls := "RayField", name := "along", desc := "(I)I" } : Jvm.MethodName)) ∈ BIG := big_mem (List.mem_append_right _ (List.mem_of_getElem? (i := 244) (by decide +kernel))) (by decide +kernel)
theorem w_245 : (Jvm.Cond.selects "RayField" ({ cls := "RayField", name := "along", desc := "(I)I" } : Jvm.MethodName) ({ cls := "RayField", name := "along", desc := "(I)I" } : Jvm.MethodName)) ∈ BIG := big_mem (List.mem_append_right _ (List.mem_of_getElem? (i := 245) (by decide +kernel))) (by decide +kernel)
theorem w_246 : (Jvm.Cond.code ({ cls := "RayField", name := "along", desc := "(I)I" } : Jvm.MethodName) prog_1_method_11_code (3 : Nat) (Option.some Jvm.ClassFile.FieldType.int)) ∈ BIG := big_mem (List.mem_append_right _ (List.mem_of_getElem? (i := 246) (by decide +kernel))) (by decide +kernel)
theorem w_247 : (Jvm.Cond.constantLong "RayField" (89 : Nat) (1024 : Int64)) ∈ BIG := big_mem (List.mem_append_right _ (List.mem_of_getElem? (i := 247) (by decide +kernel))) (by decide +kernel)
theorem w_248 : (Jvm.Cond.methodLink "RayFieldLaw" (59 : Nat) ({ cls := "RayField", name := "within", desc := "(II)I" } : Jvm.MethodName)) ∈ BIG := big_mem (List.mem_append_right _ (List.mem_of_getElem? (i := 248) (by decide +kernel))) (by decide +kernel)
theorem w_249 : (Jvm.Cond.instanceMethod ({ cls := "RayField", name := "within", desc := "(II)I" } : Jvm.MethodName)) ∈ BIG := big_mem (List.mem_append_right _ (List.mem_of_getElem? (i := 249) (by decide +kernel))) (by decide +kernel)
theorem w_250 : (Jvm.Cond.selects "RayField" ({ cls := "RayField", name := "within", desc := "(II)I" } : Jvm.MethodName) ({ cls := "RayField", name := "within", desc := "(II)I" } : Jvm.MethodName)) ∈ BIG := big_mem (List.mem_append_right _ (List.mem_of_getElem? (i := 250) (by decide +kernel))) (by decide +kernel)
theorem w_251 : (Jvm.Cond.code ({ cls := "RayField", name := "within", desc := "(II)I" } : Jvm.MethodName) prog_1_method_12_code (6 : Nat) (Option.some Jvm.ClassFile.FieldType.int)) ∈ BIG := big_mem (List.mem_append_right _ (List.mem_of_getElem? (i := 251) (by decide +kernel))) (by decide +kernel)
theorem w_252 : (Jvm.Cond.methodLink "RayField" (94 : Nat) ({ cls := "RayField$Meeting", name := "isAtMost", desc := "(JJ)Z" } : Jvm.MethodName)) ∈ BIG := big_mem (List.mem_append_right _ (List.mem_of_getElem? (i := 252) (by decide +kernel))) (by decide +kernel)
theorem w_253 : (Jvm.Cond.instanceMethod ({ cls := "RayField$Meeting", name := "isAtMost", desc := "(JJ)Z" } : Jvm.MethodName)) ∈ BIG := big_mem (List.mem_append_right _ (List.mem_of_getElem? (i := 253) (by decide +kernel))) (by decide +kernel)
theorem w_254 : (Jvm.Cond.selects "RayField$Meeting" ({ cls := "RayField$Meeting", name := "isAtMost", desc := "(JJ)Z" } : Jvm.MethodName) ({ cls := "RayField$Meeting", name := "isAtMost", desc := "(JJ)Z" } : Jvm.MethodName)) ∈ BIG := big_mem (List.mem_append_right _ (List.mem_of_getElem? (i := 254) (by decide +kernel))) (by decide +kernel)
theorem w_255 : (Jvm.Cond.code ({ cls := "RayField$Meeting", name := "isAtMost", desc := "(JJ)Z" } : Jvm.MethodName) prog_2_method_4_code (5 : Nat) (Option.some Jvm.ClassFile.FieldType.boolean)) ∈ BIG := big_mem (List.mem_append_right _ (List.mem_of_getElem? (i := 255) (by decide +kernel))) (by decide +kernel)
theorem w_256 : (Jvm.Cond.methodLink "RayFieldLaw" (64 : Nat) ({ cls := "RayField", name := "on", desc := "(II)I" } : Jvm.MethodName)) ∈ BIG := big_mem (List.mem_append_right _ (List.mem_of_getElem? (i := 256) (by decide +kernel))) (by decide +kernel)
theorem w_257 : (Jvm.Cond.instanceMethod ({ cls := "RayField", name := "on", desc := "(II)I" } : Jvm.MethodName)) ∈ BIG := big_mem (List.mem_append_right _ (List.mem_of_getElem? (i := 257) (by decide +kernel))) (by decide +kernel)
theorem w_258 : (Jvm.Cond.selects "RayField" ({ cls := "RayField", name := "on", desc := "(II)I" } : Jvm.MethodName) ({ cls := "RayField", name := "on", desc := "(II)I" } : Jvm.MethodName)) ∈ BIG := big_mem (List.mem_append_right _ (List.mem_of_getElem? (i := 258) (by decide +kernel))) (by decide +kernel)
theorem w_259 : (Jvm.Cond.code ({ cls := "RayField", name := "on", desc := "(II)I" } : Jvm.MethodName) prog_1_method_13_code (5 : Nat) (Option.some Jvm.ClassFile.FieldType.int)) ∈ BIG := big_mem (List.mem_append_right _ (List.mem_of_getElem? (i := 259) (by decide +kernel))) (by decide +kernel)
theorem w_260 : (Jvm.Cond.methodLink "RayField" (98 : Nat) ({ cls := "RayField$Wall", name := "covers", desc := "(II)Z" } : Jvm.MethodName)) ∈ BIG := big_mem (List.mem_append_right _ (List.mem_of_getElem? (i := 260) (by decide +kernel))) (by decide +kernel)
theorem w_261 : (Jvm.Cond.instanceMethod ({ cls := "RayField$Wall", name := "covers", desc := "(II)Z" } : Jvm.MethodName)) ∈ BIG := big_mem (List.mem_append_right _ (List.mem_of_getElem? (i := 261) (by decide +kernel))) (by decide +kernel)
theorem w_262 : (Jvm.Cond.selects "RayField$Wall" ({ cls := "RayField$Wall", name := "covers", desc := "(II)Z" } : Jvm.MethodName) ({ cls := "RayField$Wall", name := "covers", desc := "(II)Z" } : Jvm.MethodName)) ∈ BIG := big_mem (List.mem_append_right _ (List.mem_of_getElem? (i := 262) (by decide +kernel))) (by decide +kernel)
theorem w_263 : (Jvm.Cond.code ({ cls := "RayField$Wall", name := "covers", desc := "(II)Z" } : Jvm.MethodName) prog_4_method_4_code (3 : Nat) (Option.some Jvm.ClassFile.FieldType.boolean)) ∈ BIG := big_mem (List.mem_append_right _ (List.mem_of_getElem? (i := 263) (by decide +kernel))) (by decide +kernel)
theorem w_264 : (Jvm.Cond.methodLinkNest "RayField$Wall" (41 : Nat) ({ cls := "RayField", name := "isBetween", desc := "(III)Z" } : Jvm.MethodName) "RayField") ∈ lw_tbl := (List.mem_append_right _ (List.mem_of_getElem? (i := 264) (by decide +kernel)))
theorem w_265 : (Jvm.Cond.methodLink "RayFieldLaw" (68 : Nat) ({ cls := "RayField", name := "of", desc := "(II)I" } : Jvm.MethodName)) ∈ BIG := big_mem (List.mem_append_right _ (List.mem_of_getElem? (i := 265) (by decide +kernel))) (by decide +kernel)
theorem w_266 : (Jvm.Cond.instanceMethod ({ cls := "RayField", name := "of", desc := "(II)I" } : Jvm.MethodName)) ∈ BIG := big_mem (List.mem_append_right _ (List.mem_of_getElem? (i := 266) (by decide +kernel))) (by decide +kernel)
theorem w_267 : (Jvm.Cond.selects "RayField" ({ cls := "RayField", name := "of", desc := "(II)I" } : Jvm.MethodName) ({ cls := "RayField", name := "of", desc := "(II)I" } : Jvm.MethodName)) ∈ BIG := big_mem (List.mem_append_right _ (List.mem_of_getElem? (i := 267) (by decide +kernel))) (by decide +kernel)
theorem w_268 : (Jvm.Cond.code ({ cls := "RayField", name := "of", desc := "(II)I" } : Jvm.MethodName) prog_1_method_14_code (4 : Nat) (Option.some Jvm.ClassFile.FieldType.int)) ∈ BIG := big_mem (List.mem_append_right _ (List.mem_of_getElem? (i := 268) (by decide +kernel))) (by decide +kernel)
theorem w_269 : (Jvm.Cond.constant "RayField" (102 : Nat) (100000 : Int32)) ∈ BIG := big_mem (List.mem_append_right _ (List.mem_of_getElem? (i := 269) (by decide +kernel))) (by decide +kernel)
theorem w_270 : (Jvm.Cond.methodLink "RayFieldLaw" (72 : Nat) ({ cls := "RayField", name := "look", desc := "(I)I" } : Jvm.MethodName)) ∈ BIG := big_mem (List.mem_append_right _ (List.mem_of_getElem? (i := 270) (by decide +kernel))) (by decide +kernel)
theorem w_271 : (Jvm.Cond.instanceMethod ({ cls := "RayField", name := "look", desc := "(I)I" } : Jvm.MethodName)) ∈ BIG := big_mem (List.mem_append_right _ (List.mem_of_getElem? (i := 271) (by decide +kernel))) (by decide +kernel)
theorem w_272 : (Jvm.Cond.selects "RayField" ({ cls := "RayField", name := "look", desc := "(I)I" } : Jvm.MethodName) ({ cls := "RayField", name := "look", desc := "(I)I" } : Jvm.MethodName)) ∈ BIG := big_mem (List.mem_append_right _ (List.mem_of_getElem? (i := 272) (by decide +kernel))) (by decide +kernel)
theorem w_273 : (Jvm.Cond.code ({ cls := "RayField", name := "look", desc := "(I)I" } : Jvm.MethodName) prog_1_method_15_code (2 : Nat) (Option.some Jvm.ClassFile.FieldType.int)) ∈ BIG := big_mem (List.mem_append_right _ (List.mem_of_getElem? (i := 273) (by decide +kernel))) (by decide +kernel)
theorem w_274 : (Jvm.Cond.classLink "RayFieldLaw" (10 : Nat) "RayFieldModel") ∈ BIG := big_mem (List.mem_append_right _ (List.mem_of_getElem? (i := 274) (by decide +kernel))) (by decide +kernel)
theorem w_275 : (Jvm.Cond.instantiable "RayFieldModel" (18 : Nat)) ∈ BIG := big_mem (List.mem_append_right _ (List.mem_of_getElem? (i := 275) (by decide +kernel))) (by decide +kernel)
theorem w_276 : (Jvm.Cond.methodLink "RayFieldLaw" (12 : Nat) ({ cls := "RayFieldModel", name := "<init>", desc := "()V" } : Jvm.MethodName)) ∈ BIG := big_mem (List.mem_append_right _ (List.mem_of_getElem? (i := 276) (by decide +kernel))) (by decide +kernel)
theorem w_277 : (Jvm.Cond.instanceMethod ({ cls := "RayFieldModel", name := "<init>", desc := "()V" } : Jvm.MethodName)) ∈ BIG := big_mem (List.mem_append_right _ (List.mem_of_getElem? (i := 277) (by decide +kernel))) (by decide +kernel)
theorem w_278 : (Jvm.Cond.code ({ cls := "RayFieldModel", name := "<init>", desc := "()V" } : Jvm.MethodName) prog_6_method_1_code (1 : Nat) (Option.none : Option Jvm.ClassFile.FieldType)) ∈ BIG := big_mem (List.mem_append_right _ (List.mem_of_getElem? (i := 278) (by decide +kernel))) (by decide +kernel)
theorem w_279 : (Jvm.Cond.methodLink "RayFieldModel" (1 : Nat) ({ cls := "java/lang/Object", name := "<init>", desc := "()V" } : Jvm.MethodName)) ∈ BIG := big_mem (List.mem_append_right _ (List.mem_of_getElem? (i := 279) (by decide +kernel))) (by decide +kernel)
theorem w_280 : (Jvm.Cond.fieldLink "RayFieldModel" (29 : Nat) "RayFieldModel" "thrown" "I") ∈ BIG := big_mem (List.mem_append_right _ (List.mem_of_getElem? (i := 280) (by decide +kernel))) (by decide +kernel)
theorem w_281 : (Jvm.Cond.fieldLink "RayFieldModel" (7 : Nat) "RayFieldModel" "there" "[Z") ∈ BIG := big_mem (List.mem_append_right _ (List.mem_of_getElem? (i := 281) (by decide +kernel))) (by decide +kernel)
theorem w_282 : (Jvm.Cond.fieldLink "RayFieldModel" (13 : Nat) "RayFieldModel" "ax" "[I") ∈ BIG := big_mem (List.mem_append_right _ (List.mem_of_getElem? (i := 282) (by decide +kernel))) (by decide +kernel)
theorem w_283 : (Jvm.Cond.fieldLink "RayFieldModel" (17 : Nat) "RayFieldModel" "ay" "[I") ∈ BIG := big_mem (List.mem_append_right _ (List.mem_of_getElem? (i := 283) (by decide +kernel))) (by decide +kernel)
theorem w_284 : (Jvm.Cond.fieldLink "RayFieldModel" (20 : Nat) "RayFieldModel" "bx" "[I") ∈ BIG := big_mem (List.mem_append_right _ (List.mem_of_getElem? (i := 284) (by decide +kernel))) (by decide +kernel)
theorem w_285 : (Jvm.Cond.fieldLink "RayFieldModel" (23 : Nat) "RayFieldModel" "by" "[I") ∈ BIG := big_mem (List.mem_append_right _ (List.mem_of_getElem? (i := 285) (by decide +kernel))) (by decide +kernel)
theorem w_286 : (Jvm.Cond.fieldLink "RayFieldModel" (55 : Nat) "RayFieldModel" "many" "I") ∈ BIG := big_mem (List.mem_append_right _ (List.mem_of_getElem? (i := 286) (by decide +kernel))) (by decide +kernel)
theorem w_287 : (Jvm.Cond.fieldLink "RayFieldModel" (62 : Nat) "RayFieldModel" "hasRay" "Z") ∈ BIG := big_mem (List.mem_append_right _ (List.mem_of_getElem? (i := 287) (by decide +kernel))) (by decide +kernel)
theorem w_288 : (Jvm.Cond.fieldLink "RayFieldModel" (66 : Nat) "RayFieldModel" "ex" "I") ∈ BIG := big_mem (List.mem_append_right _ (List.mem_of_getElem? (i := 288) (by decide +kernel))) (by decide +kernel)
theorem w_289 : (Jvm.Cond.fieldLink "RayFieldModel" (69 : Nat) "RayFieldModel" "ey" "I") ∈ BIG := big_mem (List.mem_append_right _ (List.mem_of_getElem? (i := 289) (by decide +kernel))) (by decide +kernel)
theorem w_290 : (Jvm.Cond.fieldLink "RayFieldModel" (72 : Nat) "RayFieldModel" "dx" "I") ∈ BIG := big_mem (List.mem_append_right _ (List.mem_of_getElem? (i := 290) (by decide +kernel))) (by decide +kernel)
theorem w_291 : (Jvm.Cond.fieldLink "RayFieldModel" (75 : Nat) "RayFieldModel" "dy" "I") ∈ BIG := big_mem (List.mem_append_right _ (List.mem_of_getElem? (i := 291) (by decide +kernel))) (by decide +kernel)
theorem w_292 : (Jvm.Cond.fieldLink "RayFieldModel" (85 : Nat) "RayFieldModel" "above" "J") ∈ BIG := big_mem (List.mem_append_right _ (List.mem_of_getElem? (i := 292) (by decide +kernel))) (by decide +kernel)
theorem w_293 : (Jvm.Cond.fieldLink "RayFieldModel" (88 : Nat) "RayFieldModel" "below" "J") ∈ BIG := big_mem (List.mem_append_right _ (List.mem_of_getElem? (i := 293) (by decide +kernel))) (by decide +kernel)
theorem w_294 : (Jvm.Cond.fieldLink "RayFieldModel" (91 : Nat) "RayFieldModel" "right" "Z") ∈ BIG := big_mem (List.mem_append_right _ (List.mem_of_getElem? (i := 294) (by decide +kernel))) (by decide +kernel)
theorem w_295 : (Jvm.Cond.fieldLink "RayFieldModel" (78 : Nat) "RayFieldModel" "one" "J") ∈ BIG := big_mem (List.mem_append_right _ (List.mem_of_getElem? (i := 295) (by decide +kernel))) (by decide +kernel)
theorem w_296 : (Jvm.Cond.fieldLink "RayFieldModel" (82 : Nat) "RayFieldModel" "two" "J") ∈ BIG := big_mem (List.mem_append_right _ (List.mem_of_getElem? (i := 296) (by decide +kernel))) (by decide +kernel)
theorem w_297 : (Jvm.Cond.fieldLink "RayFieldModel" (26 : Nat) "RayFieldModel" "row" "[I") ∈ BIG := big_mem (List.mem_append_right _ (List.mem_of_getElem? (i := 297) (by decide +kernel))) (by decide +kernel)
theorem w_298 : (Jvm.Cond.lays "RayFieldModel" "RayFieldModel" "thrown" "I") ∈ BIG := big_mem (List.mem_append_right _ (List.mem_of_getElem? (i := 298) (by decide +kernel))) (by decide +kernel)
theorem w_300 : (Jvm.Cond.laysFinal "RayFieldModel" "RayFieldModel" "there" "[Z") ∈ BIG := big_mem (List.mem_append_right _ (List.mem_of_getElem? (i := 300) (by decide +kernel))) (by decide +kernel)
theorem w_302 : (Jvm.Cond.laysFinal "RayFieldModel" "RayFieldModel" "ax" "[I") ∈ BIG := big_mem (List.mem_append_right _ (List.mem_of_getElem? (i := 302) (by decide +kernel))) (by decide +kernel)
theorem w_304 : (Jvm.Cond.laysFinal "RayFieldModel" "RayFieldModel" "ay" "[I") ∈ BIG := big_mem (List.mem_append_right _ (List.mem_of_getElem? (i := 304) (by decide +kernel))) (by decide +kernel)
theorem w_306 : (Jvm.Cond.laysFinal "RayFieldModel" "RayFieldModel" "bx" "[I") ∈ BIG := big_mem (List.mem_append_right _ (List.mem_of_getElem? (i := 306) (by decide +kernel))) (by decide +kernel)
theorem w_308 : (Jvm.Cond.laysFinal "RayFieldModel" "RayFieldModel" "by" "[I") ∈ BIG := big_mem (List.mem_append_right _ (List.mem_of_getElem? (i := 308) (by decide +kernel))) (by decide +kernel)
theorem w_310 : (Jvm.Cond.lays "RayFieldModel" "RayFieldModel" "many" "I") ∈ BIG := big_mem (List.mem_append_right _ (List.mem_of_getElem? (i := 310) (by decide +kernel))) (by decide +kernel)
theorem w_312 : (Jvm.Cond.lays "RayFieldModel" "RayFieldModel" "hasRay" "Z") ∈ BIG := big_mem (List.mem_append_right _ (List.mem_of_getElem? (i := 312) (by decide +kernel))) (by decide +kernel)
theorem w_314 : (Jvm.Cond.lays "RayFieldModel" "RayFieldModel" "ex" "I") ∈ BIG := big_mem (List.mem_append_right _ (List.mem_of_getElem? (i := 314) (by decide +kernel))) (by decide +kernel)
theorem w_316 : (Jvm.Cond.lays "RayFieldModel" "RayFieldModel" "ey" "I") ∈ BIG := big_mem (List.mem_append_right _ (List.mem_of_getElem? (i := 316) (by decide +kernel))) (by decide +kernel)
theorem w_318 : (Jvm.Cond.lays "RayFieldModel" "RayFieldModel" "dx" "I") ∈ BIG := big_mem (List.mem_append_right _ (List.mem_of_getElem? (i := 318) (by decide +kernel))) (by decide +kernel)
theorem w_320 : (Jvm.Cond.lays "RayFieldModel" "RayFieldModel" "dy" "I") ∈ BIG := big_mem (List.mem_append_right _ (List.mem_of_getElem? (i := 320) (by decide +kernel))) (by decide +kernel)
theorem w_322 : (Jvm.Cond.lays "RayFieldModel" "RayFieldModel" "above" "J") ∈ BIG := big_mem (List.mem_append_right _ (List.mem_of_getElem? (i := 322) (by decide +kernel))) (by decide +kernel)
theorem w_324 : (Jvm.Cond.lays "RayFieldModel" "RayFieldModel" "below" "J") ∈ BIG := big_mem (List.mem_append_right _ (List.mem_of_getElem? (i := 324) (by decide +kernel))) (by decide +kernel)
theorem w_326 : (Jvm.Cond.lays "RayFieldModel" "RayFieldModel" "right" "Z") ∈ BIG := big_mem (List.mem_append_right _ (List.mem_of_getElem? (i := 326) (by decide +kernel))) (by decide +kernel)
theorem w_328 : (Jvm.Cond.lays "RayFieldModel" "RayFieldModel" "one" "J") ∈ BIG := big_mem (List.mem_append_right _ (List.mem_of_getElem? (i := 328) (by decide +kernel))) (by decide +kernel)
theorem w_330 : (Jvm.Cond.lays "RayFieldModel" "RayFieldModel" "two" "J") ∈ BIG := big_mem (List.mem_append_right _ (List.mem_of_getElem? (i := 330) (by decide +kernel))) (by decide +kernel)
theorem w_332 : (Jvm.Cond.laysFinal "RayFieldModel" "RayFieldModel" "row" "[I") ∈ BIG := big_mem (List.mem_append_right _ (List.mem_of_getElem? (i := 332) (by decide +kernel))) (by decide +kernel)
theorem w_335 : (Jvm.Cond.arrayClass Jvm.ClassFile.FieldType.boolean) ∈ BIG := big_mem (List.mem_append_right _ (List.mem_of_getElem? (i := 335) (by decide +kernel))) (by decide +kernel)
theorem w_336 : (Jvm.Cond.arrayClass Jvm.ClassFile.FieldType.int) ∈ BIG := big_mem (List.mem_append_right _ (List.mem_of_getElem? (i := 336) (by decide +kernel))) (by decide +kernel)
theorem w_337 : (Jvm.Cond.methodLink "RayFieldLaw" (17 : Nat) ({ cls := "RayFieldModel", name := "put", desc := "(IIII)I" } : Jvm.MethodName)) ∈ BIG := big_mem (List.mem_append_right _ (List.mem_of_getElem? (i := 337) (by decide +kernel))) (by decide +kernel)
theorem w_338 : (Jvm.Cond.instanceMethod ({ cls := "RayFieldModel", name := "put", desc := "(IIII)I" } : Jvm.MethodName)) ∈ BIG := big_mem (List.mem_append_right _ (List.mem_of_getElem? (i := 338) (by decide +kernel))) (by decide +kernel)
theorem w_339 : (Jvm.Cond.selects "RayFieldModel" ({ cls := "RayFieldModel", name := "put", desc := "(IIII)I" } : Jvm.MethodName) ({ cls := "RayFieldModel", name := "put", desc := "(IIII)I" } : Jvm.MethodName)) ∈ BIG := big_mem (List.mem_append_right _ (List.mem_of_getElem? (i := 339) (by decide +kernel))) (by decide +kernel)
theorem w_340 : (Jvm.Cond.code ({ cls := "RayFieldModel", name := "put", desc := "(IIII)I" } : Jvm.MethodName) prog_6_method_9_code (7 : Nat) (Option.some Jvm.ClassFile.FieldType.int)) ∈ BIG := big_mem (List.mem_append_right _ (List.mem_of_getElem? (i := 340) (by decide +kernel))) (by decide +kernel)
theorem w_341 : (Jvm.Cond.methodLink "RayFieldModel" (44 : Nat) ({ cls := "RayFieldModel", name := "free", desc := "()I" } : Jvm.MethodName)) ∈ BIG := big_mem (List.mem_append_right _ (List.mem_of_getElem? (i := 341) (by decide +kernel))) (by decide +kernel)
theorem w_343 : (Jvm.Cond.instanceMethod ({ cls := "RayFieldModel", name := "free", desc := "()I" } : Jvm.MethodName)) ∈ BIG := big_mem (List.mem_append_right _ (List.mem_of_getElem? (i := 343) (by decide +kernel))) (by decide +kernel)
theorem w_344 : (Jvm.Cond.code ({ cls := "RayFieldModel", name := "free", desc := "()I" } : Jvm.MethodName) prog_6_method_5_code (2 : Nat) (Option.some Jvm.ClassFile.FieldType.int)) ∈ BIG := big_mem (List.mem_append_right _ (List.mem_of_getElem? (i := 344) (by decide +kernel))) (by decide +kernel)
theorem w_345 : (Jvm.Cond.methodLink "RayFieldModel" (48 : Nat) ({ cls := "RayFieldModel", name := "isIn", desc := "(II)Z" } : Jvm.MethodName)) ∈ BIG := big_mem (List.mem_append_right _ (List.mem_of_getElem? (i := 345) (by decide +kernel))) (by decide +kernel)
theorem w_346 : (Jvm.Cond.static ({ cls := "RayFieldModel", name := "isIn", desc := "(II)Z" } : Jvm.MethodName)) ∈ BIG := big_mem (List.mem_append_right _ (List.mem_of_getElem? (i := 346) (by decide +kernel))) (by decide +kernel)
theorem w_347 : (Jvm.Cond.code ({ cls := "RayFieldModel", name := "isIn", desc := "(II)Z" } : Jvm.MethodName) prog_6_method_4_code (2 : Nat) (Option.some Jvm.ClassFile.FieldType.boolean)) ∈ BIG := big_mem (List.mem_append_right _ (List.mem_of_getElem? (i := 347) (by decide +kernel))) (by decide +kernel)
theorem w_348 : (Jvm.Cond.methodLink "RayFieldModel" (52 : Nat) ({ cls := "RayFieldModel", name := "areApart", desc := "(II)Z" } : Jvm.MethodName)) ∈ BIG := big_mem (List.mem_append_right _ (List.mem_of_getElem? (i := 348) (by decide +kernel))) (by decide +kernel)
theorem w_350 : (Jvm.Cond.instanceMethod ({ cls := "RayFieldModel", name := "areApart", desc := "(II)Z" } : Jvm.MethodName)) ∈ BIG := big_mem (List.mem_append_right _ (List.mem_of_getElem? (i := 350) (by decide +kernel))) (by decide +kernel)
theorem w_351 : (Jvm.Cond.code ({ cls := "RayFieldModel", name := "areApart", desc := "(II)Z" } : Jvm.MethodName) prog_6_method_8_code (14 : Nat) (Option.some Jvm.ClassFile.FieldType.boolean)) ∈ BIG := big_mem (List.mem_append_right _ (List.mem_of_getElem? (i := 351) (by decide +kernel))) (by decide +kernel)
theorem w_352 : (Jvm.Cond.methodLink "RayFieldModel" (33 : Nat) ({ cls := "RayFieldModel", name := "cross", desc := "(JJJJ)J" } : Jvm.MethodName)) ∈ BIG := big_mem (List.mem_append_right _ (List.mem_of_getElem? (i := 352) (by decide +kernel))) (by decide +kernel)
theorem w_353 : (Jvm.Cond.static ({ cls := "RayFieldModel", name := "cross", desc := "(JJJJ)J" } : Jvm.MethodName)) ∈ BIG := big_mem (List.mem_append_right _ (List.mem_of_getElem? (i := 353) (by decide +kernel))) (by decide +kernel)
theorem w_354 : (Jvm.Cond.code ({ cls := "RayFieldModel", name := "cross", desc := "(JJJJ)J" } : Jvm.MethodName) prog_6_method_3_code (8 : Nat) (Option.some Jvm.ClassFile.FieldType.long)) ∈ BIG := big_mem (List.mem_append_right _ (List.mem_of_getElem? (i := 354) (by decide +kernel))) (by decide +kernel)
theorem w_355 : (Jvm.Cond.methodLink "RayFieldModel" (37 : Nat) ({ cls := "RayFieldModel", name := "isEnd", desc := "(III)Z" } : Jvm.MethodName)) ∈ BIG := big_mem (List.mem_append_right _ (List.mem_of_getElem? (i := 355) (by decide +kernel))) (by decide +kernel)
theorem w_357 : (Jvm.Cond.instanceMethod ({ cls := "RayFieldModel", name := "isEnd", desc := "(III)Z" } : Jvm.MethodName)) ∈ BIG := big_mem (List.mem_append_right _ (List.mem_of_getElem? (i := 357) (by decide +kernel))) (by decide +kernel)
theorem w_358 : (Jvm.Cond.code ({ cls := "RayFieldModel", name := "isEnd", desc := "(III)Z" } : Jvm.MethodName) prog_6_method_7_code (4 : Nat) (Option.some Jvm.ClassFile.FieldType.boolean)) ∈ BIG := big_mem (List.mem_append_right _ (List.mem_of_getElem? (i := 358) (by decide +kernel))) (by decide +kernel)
theorem w_359 : (Jvm.Cond.methodLink "RayFieldModel" (41 : Nat) ({ cls := "RayFieldModel", name := "isOn", desc := "(III)Z" } : Jvm.MethodName)) ∈ BIG := big_mem (List.mem_append_right _ (List.mem_of_getElem? (i := 359) (by decide +kernel))) (by decide +kernel)
theorem w_361 : (Jvm.Cond.instanceMethod ({ cls := "RayFieldModel", name := "isOn", desc := "(III)Z" } : Jvm.MethodName)) ∈ BIG := big_mem (List.mem_append_right _ (List.mem_of_getElem? (i := 361) (by decide +kernel))) (by decide +kernel)
theorem w_362 : (Jvm.Cond.code ({ cls := "RayFieldModel", name := "isOn", desc := "(III)Z" } : Jvm.MethodName) prog_6_method_6_code (8 : Nat) (Option.some Jvm.ClassFile.FieldType.boolean)) ∈ BIG := big_mem (List.mem_append_right _ (List.mem_of_getElem? (i := 362) (by decide +kernel))) (by decide +kernel)
theorem w_363 : (Jvm.Cond.methodLink "RayFieldLaw" (22 : Nat) ({ cls := "RayFieldModel", name := "take", desc := "(I)Z" } : Jvm.MethodName)) ∈ BIG := big_mem (List.mem_append_right _ (List.mem_of_getElem? (i := 363) (by decide +kernel))) (by decide +kernel)
theorem w_364 : (Jvm.Cond.instanceMethod ({ cls := "RayFieldModel", name := "take", desc := "(I)Z" } : Jvm.MethodName)) ∈ BIG := big_mem (List.mem_append_right _ (List.mem_of_getElem? (i := 364) (by decide +kernel))) (by decide +kernel)
theorem w_365 : (Jvm.Cond.selects "RayFieldModel" ({ cls := "RayFieldModel", name := "take", desc := "(I)Z" } : Jvm.MethodName) ({ cls := "RayFieldModel", name := "take", desc := "(I)Z" } : Jvm.MethodName)) ∈ BIG := big_mem (List.mem_append_right _ (List.mem_of_getElem? (i := 365) (by decide +kernel))) (by decide +kernel)
theorem w_366 : (Jvm.Cond.code ({ cls := "RayFieldModel", name := "take", desc := "(I)Z" } : Jvm.MethodName) prog_6_method_11_code (2 : Nat) (Option.some Jvm.ClassFile.FieldType.boolean)) ∈ BIG := big_mem (List.mem_append_right _ (List.mem_of_getElem? (i := 366) (by decide +kernel))) (by decide +kernel)
theorem w_367 : (Jvm.Cond.methodLink "RayFieldModel" (58 : Nat) ({ cls := "RayFieldModel", name := "isWall", desc := "(I)Z" } : Jvm.MethodName)) ∈ BIG := big_mem (List.mem_append_right _ (List.mem_of_getElem? (i := 367) (by decide +kernel))) (by decide +kernel)
theorem w_369 : (Jvm.Cond.instanceMethod ({ cls := "RayFieldModel", name := "isWall", desc := "(I)Z" } : Jvm.MethodName)) ∈ BIG := big_mem (List.mem_append_right _ (List.mem_of_getElem? (i := 369) (by decide +kernel))) (by decide +kernel)
theorem w_370 : (Jvm.Cond.code ({ cls := "RayFieldModel", name := "isWall", desc := "(I)Z" } : Jvm.MethodName) prog_6_method_10_code (2 : Nat) (Option.some Jvm.ClassFile.FieldType.boolean)) ∈ BIG := big_mem (List.mem_append_right _ (List.mem_of_getElem? (i := 370) (by decide +kernel))) (by decide +kernel)
theorem w_371 : (Jvm.Cond.methodLink "RayFieldLaw" (26 : Nat) ({ cls := "RayFieldModel", name := "turn", desc := "(I)Z" } : Jvm.MethodName)) ∈ BIG := big_mem (List.mem_append_right _ (List.mem_of_getElem? (i := 371) (by decide +kernel))) (by decide +kernel)
theorem w_372 : (Jvm.Cond.instanceMethod ({ cls := "RayFieldModel", name := "turn", desc := "(I)Z" } : Jvm.MethodName)) ∈ BIG := big_mem (List.mem_append_right _ (List.mem_of_getElem? (i := 372) (by decide +kernel))) (by decide +kernel)
theorem w_373 : (Jvm.Cond.selects "RayFieldModel" ({ cls := "RayFieldModel", name := "turn", desc := "(I)Z" } : Jvm.MethodName) ({ cls := "RayFieldModel", name := "turn", desc := "(I)Z" } : Jvm.MethodName)) ∈ BIG := big_mem (List.mem_append_right _ (List.mem_of_getElem? (i := 373) (by decide +kernel))) (by decide +kernel)
theorem w_374 : (Jvm.Cond.code ({ cls := "RayFieldModel", name := "turn", desc := "(I)Z" } : Jvm.MethodName) prog_6_method_12_code (4 : Nat) (Option.some Jvm.ClassFile.FieldType.boolean)) ∈ BIG := big_mem (List.mem_append_right _ (List.mem_of_getElem? (i := 374) (by decide +kernel))) (by decide +kernel)
theorem w_375 : (Jvm.Cond.methodLink "RayFieldLaw" (30 : Nat) ({ cls := "RayFieldModel", name := "clear", desc := "()V" } : Jvm.MethodName)) ∈ BIG := big_mem (List.mem_append_right _ (List.mem_of_getElem? (i := 375) (by decide +kernel))) (by decide +kernel)
theorem w_376 : (Jvm.Cond.instanceMethod ({ cls := "RayFieldModel", name := "clear", desc := "()V" } : Jvm.MethodName)) ∈ BIG := big_mem (List.mem_append_right _ (List.mem_of_getElem? (i := 376) (by decide +kernel))) (by decide +kernel)
theorem w_377 : (Jvm.Cond.selects "RayFieldModel" ({ cls := "RayFieldModel", name := "clear", desc := "()V" } : Jvm.MethodName) ({ cls := "RayFieldModel", name := "clear", desc := "()V" } : Jvm.MethodName)) ∈ BIG := big_mem (List.mem_append_right _ (List.mem_of_getElem? (i := 377) (by decide +kernel))) (by decide +kernel)
theorem w_378 : (Jvm.Cond.code ({ cls := "RayFieldModel", name := "clear", desc := "()V" } : Jvm.MethodName) prog_6_method_13_code (2 : Nat) (Option.none : Option Jvm.ClassFile.FieldType)) ∈ BIG := big_mem (List.mem_append_right _ (List.mem_of_getElem? (i := 378) (by decide +kernel))) (by decide +kernel)
theorem w_379 : (Jvm.Cond.methodLink "RayFieldLaw" (35 : Nat) ({ cls := "RayFieldModel", name := "ray", desc := "(IIII)Z" } : Jvm.MethodName)) ∈ BIG := big_mem (List.mem_append_right _ (List.mem_of_getElem? (i := 379) (by decide +kernel))) (by decide +kernel)
theorem w_380 : (Jvm.Cond.instanceMethod ({ cls := "RayFieldModel", name := "ray", desc := "(IIII)Z" } : Jvm.MethodName)) ∈ BIG := big_mem (List.mem_append_right _ (List.mem_of_getElem? (i := 380) (by decide +kernel))) (by decide +kernel)
theorem w_381 : (Jvm.Cond.selects "RayFieldModel" ({ cls := "RayFieldModel", name := "ray", desc := "(IIII)Z" } : Jvm.MethodName) ({ cls := "RayFieldModel", name := "ray", desc := "(IIII)Z" } : Jvm.MethodName)) ∈ BIG := big_mem (List.mem_append_right _ (List.mem_of_getElem? (i := 381) (by decide +kernel))) (by decide +kernel)
theorem w_382 : (Jvm.Cond.code ({ cls := "RayFieldModel", name := "ray", desc := "(IIII)Z" } : Jvm.MethodName) prog_6_method_14_code (5 : Nat) (Option.some Jvm.ClassFile.FieldType.boolean)) ∈ BIG := big_mem (List.mem_append_right _ (List.mem_of_getElem? (i := 382) (by decide +kernel))) (by decide +kernel)
theorem w_383 : (Jvm.Cond.methodLink "RayFieldLaw" (40 : Nat) ({ cls := "RayFieldModel", name := "met", desc := "()I" } : Jvm.MethodName)) ∈ BIG := big_mem (List.mem_append_right _ (List.mem_of_getElem? (i := 383) (by decide +kernel))) (by decide +kernel)
theorem w_384 : (Jvm.Cond.instanceMethod ({ cls := "RayFieldModel", name := "met", desc := "()I" } : Jvm.MethodName)) ∈ BIG := big_mem (List.mem_append_right _ (List.mem_of_getElem? (i := 384) (by decide +kernel))) (by decide +kernel)
theorem w_385 : (Jvm.Cond.selects "RayFieldModel" ({ cls := "RayFieldModel", name := "met", desc := "()I" } : Jvm.MethodName) ({ cls := "RayFieldModel", name := "met", desc := "()I" } : Jvm.MethodName)) ∈ BIG := big_mem (List.mem_append_right _ (List.mem_of_getElem? (i := 385) (by decide +kernel))) (by decide +kernel)
theorem w_386 : (Jvm.Cond.code ({ cls := "RayFieldModel", name := "met", desc := "()I" } : Jvm.MethodName) prog_6_method_18_code (1 : Nat) (Option.some Jvm.ClassFile.FieldType.int)) ∈ BIG := big_mem (List.mem_append_right _ (List.mem_of_getElem? (i := 386) (by decide +kernel))) (by decide +kernel)
theorem w_387 : (Jvm.Cond.methodLink "RayFieldModel" (100 : Nat) ({ cls := "RayFieldModel", name := "gather", desc := "()I" } : Jvm.MethodName)) ∈ BIG := big_mem (List.mem_append_right _ (List.mem_of_getElem? (i := 387) (by decide +kernel))) (by decide +kernel)
theorem w_389 : (Jvm.Cond.instanceMethod ({ cls := "RayFieldModel", name := "gather", desc := "()I" } : Jvm.MethodName)) ∈ BIG := big_mem (List.mem_append_right _ (List.mem_of_getElem? (i := 389) (by decide +kernel))) (by decide +kernel)
theorem w_390 : (Jvm.Cond.code ({ cls := "RayFieldModel", name := "gather", desc := "()I" } : Jvm.MethodName) prog_6_method_17_code (4 : Nat) (Option.some Jvm.ClassFile.FieldType.int)) ∈ BIG := big_mem (List.mem_append_right _ (List.mem_of_getElem? (i := 390) (by decide +kernel))) (by decide +kernel)
theorem w_391 : (Jvm.Cond.methodLink "RayFieldModel" (94 : Nat) ({ cls := "RayFieldModel", name := "meets", desc := "(I)Z" } : Jvm.MethodName)) ∈ BIG := big_mem (List.mem_append_right _ (List.mem_of_getElem? (i := 391) (by decide +kernel))) (by decide +kernel)
theorem w_393 : (Jvm.Cond.instanceMethod ({ cls := "RayFieldModel", name := "meets", desc := "(I)Z" } : Jvm.MethodName)) ∈ BIG := big_mem (List.mem_append_right _ (List.mem_of_getElem? (i := 393) (by decide +kernel))) (by decide +kernel)
theorem w_394 : (Jvm.Cond.code ({ cls := "RayFieldModel", name := "meets", desc := "(I)Z" } : Jvm.MethodName) prog_6_method_15_code (2 : Nat) (Option.some Jvm.ClassFile.FieldType.boolean)) ∈ BIG := big_mem (List.mem_append_right _ (List.mem_of_getElem? (i := 394) (by decide +kernel))) (by decide +kernel)
theorem w_395 : (Jvm.Cond.methodLink "RayFieldModel" (97 : Nat) ({ cls := "RayFieldModel", name := "isAhead", desc := "(II)Z" } : Jvm.MethodName)) ∈ BIG := big_mem (List.mem_append_right _ (List.mem_of_getElem? (i := 395) (by decide +kernel))) (by decide +kernel)
theorem w_397 : (Jvm.Cond.instanceMethod ({ cls := "RayFieldModel", name := "isAhead", desc := "(II)Z" } : Jvm.MethodName)) ∈ BIG := big_mem (List.mem_append_right _ (List.mem_of_getElem? (i := 397) (by decide +kernel))) (by decide +kernel)
theorem w_398 : (Jvm.Cond.code ({ cls := "RayFieldModel", name := "isAhead", desc := "(II)Z" } : Jvm.MethodName) prog_6_method_16_code (8 : Nat) (Option.some Jvm.ClassFile.FieldType.boolean)) ∈ BIG := big_mem (List.mem_append_right _ (List.mem_of_getElem? (i := 398) (by decide +kernel))) (by decide +kernel)
theorem w_399 : (Jvm.Cond.methodLink "RayFieldLaw" (45 : Nat) ({ cls := "RayFieldModel", name := "wall", desc := "(I)I" } : Jvm.MethodName)) ∈ BIG := big_mem (List.mem_append_right _ (List.mem_of_getElem? (i := 399) (by decide +kernel))) (by decide +kernel)
theorem w_400 : (Jvm.Cond.instanceMethod ({ cls := "RayFieldModel", name := "wall", desc := "(I)I" } : Jvm.MethodName)) ∈ BIG := big_mem (List.mem_append_right _ (List.mem_of_getElem? (i := 400) (by decide +kernel))) (by decide +kernel)
theorem w_401 : (Jvm.Cond.selects "RayFieldModel" ({ cls := "RayFieldModel", name := "wall", desc := "(I)I" } : Jvm.MethodName) ({ cls := "RayFieldModel", name := "wall", desc := "(I)I" } : Jvm.MethodName)) ∈ BIG := big_mem (List.mem_append_right _ (List.mem_of_getElem? (i := 401) (by decide +kernel))) (by decide +kernel)
theorem w_402 : (Jvm.Cond.code ({ cls := "RayFieldModel", name := "wall", desc := "(I)I" } : Jvm.MethodName) prog_6_method_20_code (2 : Nat) (Option.some Jvm.ClassFile.FieldType.int)) ∈ BIG := big_mem (List.mem_append_right _ (List.mem_of_getElem? (i := 402) (by decide +kernel))) (by decide +kernel)
theorem w_403 : (Jvm.Cond.methodLink "RayFieldModel" (103 : Nat) ({ cls := "RayFieldModel", name := "isMet", desc := "(I)Z" } : Jvm.MethodName)) ∈ BIG := big_mem (List.mem_append_right _ (List.mem_of_getElem? (i := 403) (by decide +kernel))) (by decide +kernel)
theorem w_405 : (Jvm.Cond.instanceMethod ({ cls := "RayFieldModel", name := "isMet", desc := "(I)Z" } : Jvm.MethodName)) ∈ BIG := big_mem (List.mem_append_right _ (List.mem_of_getElem? (i := 405) (by decide +kernel))) (by decide +kernel)
theorem w_406 : (Jvm.Cond.code ({ cls := "RayFieldModel", name := "isMet", desc := "(I)Z" } : Jvm.MethodName) prog_6_method_19_code (2 : Nat) (Option.some Jvm.ClassFile.FieldType.boolean)) ∈ BIG := big_mem (List.mem_append_right _ (List.mem_of_getElem? (i := 406) (by decide +kernel))) (by decide +kernel)
theorem w_407 : (Jvm.Cond.methodLink "RayFieldLaw" (49 : Nat) ({ cls := "RayFieldModel", name := "isRight", desc := "(I)Z" } : Jvm.MethodName)) ∈ BIG := big_mem (List.mem_append_right _ (List.mem_of_getElem? (i := 407) (by decide +kernel))) (by decide +kernel)
theorem w_408 : (Jvm.Cond.instanceMethod ({ cls := "RayFieldModel", name := "isRight", desc := "(I)Z" } : Jvm.MethodName)) ∈ BIG := big_mem (List.mem_append_right _ (List.mem_of_getElem? (i := 408) (by decide +kernel))) (by decide +kernel)
theorem w_409 : (Jvm.Cond.selects "RayFieldModel" ({ cls := "RayFieldModel", name := "isRight", desc := "(I)Z" } : Jvm.MethodName) ({ cls := "RayFieldModel", name := "isRight", desc := "(I)Z" } : Jvm.MethodName)) ∈ BIG := big_mem (List.mem_append_right _ (List.mem_of_getElem? (i := 409) (by decide +kernel))) (by decide +kernel)
theorem w_410 : (Jvm.Cond.code ({ cls := "RayFieldModel", name := "isRight", desc := "(I)Z" } : Jvm.MethodName) prog_6_method_21_code (2 : Nat) (Option.some Jvm.ClassFile.FieldType.boolean)) ∈ BIG := big_mem (List.mem_append_right _ (List.mem_of_getElem? (i := 410) (by decide +kernel))) (by decide +kernel)
theorem w_411 : (Jvm.Cond.methodLink "RayFieldLaw" (54 : Nat) ({ cls := "RayFieldModel", name := "times", desc := "(II)J" } : Jvm.MethodName)) ∈ BIG := big_mem (List.mem_append_right _ (List.mem_of_getElem? (i := 411) (by decide +kernel))) (by decide +kernel)
theorem w_412 : (Jvm.Cond.instanceMethod ({ cls := "RayFieldModel", name := "times", desc := "(II)J" } : Jvm.MethodName)) ∈ BIG := big_mem (List.mem_append_right _ (List.mem_of_getElem? (i := 412) (by decide +kernel))) (by decide +kernel)
theorem w_413 : (Jvm.Cond.selects "RayFieldModel" ({ cls := "RayFieldModel", name := "times", desc := "(II)J" } : Jvm.MethodName) ({ cls := "RayFieldModel", name := "times", desc := "(II)J" } : Jvm.MethodName)) ∈ BIG := big_mem (List.mem_append_right _ (List.mem_of_getElem? (i := 413) (by decide +kernel))) (by decide +kernel)
theorem w_414 : (Jvm.Cond.code ({ cls := "RayFieldModel", name := "times", desc := "(II)J" } : Jvm.MethodName) prog_6_method_22_code (4 : Nat) (Option.some Jvm.ClassFile.FieldType.long)) ∈ BIG := big_mem (List.mem_append_right _ (List.mem_of_getElem? (i := 414) (by decide +kernel))) (by decide +kernel)
theorem w_415 : (Jvm.Cond.constant "RayFieldModel" (106 : Nat) (1000000 : Int32)) ∈ BIG := big_mem (List.mem_append_right _ (List.mem_of_getElem? (i := 415) (by decide +kernel))) (by decide +kernel)
theorem w_416 : (Jvm.Cond.constantLong "RayFieldModel" (107 : Nat) (-1 : Int64)) ∈ BIG := big_mem (List.mem_append_right _ (List.mem_of_getElem? (i := 416) (by decide +kernel))) (by decide +kernel)
theorem w_417 : (Jvm.Cond.methodLink "RayFieldLaw" (58 : Nat) ({ cls := "RayFieldModel", name := "along", desc := "(I)I" } : Jvm.MethodName)) ∈ BIG := big_mem (List.mem_append_right _ (List.mem_of_getElem? (i := 417) (by decide +kernel))) (by decide +kernel)
theorem w_418 : (Jvm.Cond.instanceMethod ({ cls := "RayFieldModel", name := "along", desc := "(I)I" } : Jvm.MethodName)) ∈ BIG := big_mem (List.mem_append_right _ (List.mem_of_getElem? (i := 418) (by decide +kernel))) (by decide +kernel)
theorem w_419 : (Jvm.Cond.selects "RayFieldModel" ({ cls := "RayFieldModel", name := "along", desc := "(I)I" } : Jvm.MethodName) ({ cls := "RayFieldModel", name := "along", desc := "(I)I" } : Jvm.MethodName)) ∈ BIG := big_mem (List.mem_append_right _ (List.mem_of_getElem? (i := 419) (by decide +kernel))) (by decide +kernel)
theorem w_420 : (Jvm.Cond.code ({ cls := "RayFieldModel", name := "along", desc := "(I)I" } : Jvm.MethodName) prog_6_method_24_code (3 : Nat) (Option.some Jvm.ClassFile.FieldType.int)) ∈ BIG := big_mem (List.mem_append_right _ (List.mem_of_getElem? (i := 420) (by decide +kernel))) (by decide +kernel)
theorem w_421 : (Jvm.Cond.constantLong "RayFieldModel" (109 : Nat) (1024 : Int64)) ∈ BIG := big_mem (List.mem_append_right _ (List.mem_of_getElem? (i := 421) (by decide +kernel))) (by decide +kernel)
theorem w_422 : (Jvm.Cond.methodLink "RayFieldModel" (111 : Nat) ({ cls := "RayFieldModel", name := "down", desc := "(JJ)J" } : Jvm.MethodName)) ∈ BIG := big_mem (List.mem_append_right _ (List.mem_of_getElem? (i := 422) (by decide +kernel))) (by decide +kernel)
theorem w_423 : (Jvm.Cond.static ({ cls := "RayFieldModel", name := "down", desc := "(JJ)J" } : Jvm.MethodName)) ∈ BIG := big_mem (List.mem_append_right _ (List.mem_of_getElem? (i := 423) (by decide +kernel))) (by decide +kernel)
theorem w_424 : (Jvm.Cond.code ({ cls := "RayFieldModel", name := "down", desc := "(JJ)J" } : Jvm.MethodName) prog_6_method_23_code (6 : Nat) (Option.some Jvm.ClassFile.FieldType.long)) ∈ BIG := big_mem (List.mem_append_right _ (List.mem_of_getElem? (i := 424) (by decide +kernel))) (by decide +kernel)
theorem w_425 : (Jvm.Cond.methodLink "RayFieldLaw" (63 : Nat) ({ cls := "RayFieldModel", name := "within", desc := "(II)I" } : Jvm.MethodName)) ∈ BIG := big_mem (List.mem_append_right _ (List.mem_of_getElem? (i := 425) (by decide +kernel))) (by decide +kernel)
theorem w_426 : (Jvm.Cond.instanceMethod ({ cls := "RayFieldModel", name := "within", desc := "(II)I" } : Jvm.MethodName)) ∈ BIG := big_mem (List.mem_append_right _ (List.mem_of_getElem? (i := 426) (by decide +kernel))) (by decide +kernel)
theorem w_427 : (Jvm.Cond.selects "RayFieldModel" ({ cls := "RayFieldModel", name := "within", desc := "(II)I" } : Jvm.MethodName) ({ cls := "RayFieldModel", name := "within", desc := "(II)I" } : Jvm.MethodName)) ∈ BIG := big_mem (List.mem_append_right _ (List.mem_of_getElem? (i := 427) (by decide +kernel))) (by decide +kernel)
theorem w_428 : (Jvm.Cond.code ({ cls := "RayFieldModel", name := "within", desc := "(II)I" } : Jvm.MethodName) prog_6_method_25_code (5 : Nat) (Option.some Jvm.ClassFile.FieldType.int)) ∈ BIG := big_mem (List.mem_append_right _ (List.mem_of_getElem? (i := 428) (by decide +kernel))) (by decide +kernel)
theorem w_429 : (Jvm.Cond.methodLink "RayFieldLaw" (67 : Nat) ({ cls := "RayFieldModel", name := "on", desc := "(II)I" } : Jvm.MethodName)) ∈ BIG := big_mem (List.mem_append_right _ (List.mem_of_getElem? (i := 429) (by decide +kernel))) (by decide +kernel)
theorem w_430 : (Jvm.Cond.instanceMethod ({ cls := "RayFieldModel", name := "on", desc := "(II)I" } : Jvm.MethodName)) ∈ BIG := big_mem (List.mem_append_right _ (List.mem_of_getElem? (i := 430) (by decide +kernel))) (by decide +kernel)
theorem w_431 : (Jvm.Cond.selects "RayFieldModel" ({ cls := "RayFieldModel", name := "on", desc := "(II)I" } : Jvm.MethodName) ({ cls := "RayFieldModel", name := "on", desc := "(II)I" } : Jvm.MethodName)) ∈ BIG := big_mem (List.mem_append_right _ (List.mem_of_getElem? (i := 431) (by decide +kernel))) (by decide +kernel)
theorem w_432 : (Jvm.Cond.code ({ cls := "RayFieldModel", name := "on", desc := "(II)I" } : Jvm.MethodName) prog_6_method_26_code (4 : Nat) (Option.some Jvm.ClassFile.FieldType.int)) ∈ BIG := big_mem (List.mem_append_right _ (List.mem_of_getElem? (i := 432) (by decide +kernel))) (by decide +kernel)
theorem w_433 : (Jvm.Cond.methodLink "RayFieldLaw" (71 : Nat) ({ cls := "RayFieldModel", name := "of", desc := "(II)I" } : Jvm.MethodName)) ∈ BIG := big_mem (List.mem_append_right _ (List.mem_of_getElem? (i := 433) (by decide +kernel))) (by decide +kernel)
theorem w_434 : (Jvm.Cond.instanceMethod ({ cls := "RayFieldModel", name := "of", desc := "(II)I" } : Jvm.MethodName)) ∈ BIG := big_mem (List.mem_append_right _ (List.mem_of_getElem? (i := 434) (by decide +kernel))) (by decide +kernel)
theorem w_435 : (Jvm.Cond.selects "RayFieldModel" ({ cls := "RayFieldModel", name := "of", desc := "(II)I" } : Jvm.MethodName) ({ cls := "RayFieldModel", name := "of", desc := "(II)I" } : Jvm.MethodName)) ∈ BIG := big_mem (List.mem_append_right _ (List.mem_of_getElem? (i := 435) (by decide +kernel))) (by decide +kernel)
theorem w_436 : (Jvm.Cond.code ({ cls := "RayFieldModel", name := "of", desc := "(II)I" } : Jvm.MethodName) prog_6_method_27_code (3 : Nat) (Option.some Jvm.ClassFile.FieldType.int)) ∈ BIG := big_mem (List.mem_append_right _ (List.mem_of_getElem? (i := 436) (by decide +kernel))) (by decide +kernel)
theorem w_437 : (Jvm.Cond.constant "RayFieldModel" (115 : Nat) (100000 : Int32)) ∈ BIG := big_mem (List.mem_append_right _ (List.mem_of_getElem? (i := 437) (by decide +kernel))) (by decide +kernel)
theorem w_438 : (Jvm.Cond.methodLink "RayFieldLaw" (75 : Nat) ({ cls := "RayFieldModel", name := "look", desc := "(I)I" } : Jvm.MethodName)) ∈ BIG := big_mem (List.mem_append_right _ (List.mem_of_getElem? (i := 438) (by decide +kernel))) (by decide +kernel)
theorem w_439 : (Jvm.Cond.instanceMethod ({ cls := "RayFieldModel", name := "look", desc := "(I)I" } : Jvm.MethodName)) ∈ BIG := big_mem (List.mem_append_right _ (List.mem_of_getElem? (i := 439) (by decide +kernel))) (by decide +kernel)
theorem w_440 : (Jvm.Cond.selects "RayFieldModel" ({ cls := "RayFieldModel", name := "look", desc := "(I)I" } : Jvm.MethodName) ({ cls := "RayFieldModel", name := "look", desc := "(I)I" } : Jvm.MethodName)) ∈ BIG := big_mem (List.mem_append_right _ (List.mem_of_getElem? (i := 440) (by decide +kernel))) (by decide +kernel)
theorem w_441 : (Jvm.Cond.code ({ cls := "RayFieldModel", name := "look", desc := "(I)I" } : Jvm.MethodName) prog_6_method_28_code (2 : Nat) (Option.some Jvm.ClassFile.FieldType.int)) ∈ BIG := big_mem (List.mem_append_right _ (List.mem_of_getElem? (i := 441) (by decide +kernel))) (by decide +kernel)
