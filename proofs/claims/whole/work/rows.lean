section
-- ===== PART A: goes FIRST, ahead of the names: the tables' words, and 'selects' of the private methods out of them =====
/-- a private method of a class that the tables say can be made, by its rows of tables_1 -/
def lw_okq (q : MethodName × Nat) : Prop := (q.1.cls ≠ "java/lang/invoke/MethodHandle" ∧ q.1.cls ≠ "java/lang/invoke/VarHandle") ∧ Cond.instantiable q.1.cls q.2 ∈ tables_1 ∧ Cond.privateMethod q.1 ∈ tables_1 ∧ Cond.instanceMethod q.1 ∈ tables_1
theorem lw_p0 : lw_okq (⟨"LateRoutes", "settle", "()V"⟩, 5) := ⟨⟨by decide +kernel, by decide +kernel⟩, List.mem_of_getElem? (i := 8) (by decide +kernel), List.mem_of_getElem? (i := 87) (by decide +kernel), List.mem_of_getElem? (i := 88) (by decide +kernel)⟩
theorem lw_p1 : lw_okq (⟨"LateRoutes$Load", "pickedOption", "()LLateRoutes$Option;"⟩, 12) := ⟨⟨by decide +kernel, by decide +kernel⟩, List.mem_of_getElem? (i := 105) (by decide +kernel), List.mem_of_getElem? (i := 103) (by decide +kernel), List.mem_of_getElem? (i := 104) (by decide +kernel)⟩
theorem lw_p2 : lw_okq (⟨"LateRoutes$Load", "catches", "(LLateRoutes$Line;)Z"⟩, 12) := ⟨⟨by decide +kernel, by decide +kernel⟩, List.mem_of_getElem? (i := 105) (by decide +kernel), List.mem_of_getElem? (i := 125) (by decide +kernel), List.mem_of_getElem? (i := 126) (by decide +kernel)⟩
theorem lw_p3 : lw_okq (⟨"LateRoutes", "findLine", "(I)LLateRoutes$Line;"⟩, 5) := ⟨⟨by decide +kernel, by decide +kernel⟩, List.mem_of_getElem? (i := 8) (by decide +kernel), List.mem_of_getElem? (i := 134) (by decide +kernel), List.mem_of_getElem? (i := 135) (by decide +kernel)⟩
theorem lw_p4 : lw_okq (⟨"LateRoutes", "fileByLeaving", "(LLateRoutes$Load;)V"⟩, 5) := ⟨⟨by decide +kernel, by decide +kernel⟩, List.mem_of_getElem? (i := 8) (by decide +kernel), List.mem_of_getElem? (i := 187) (by decide +kernel), List.mem_of_getElem? (i := 188) (by decide +kernel)⟩
theorem lw_p5 : lw_okq (⟨"LateRoutes", "findLoad", "(I)LLateRoutes$Load;"⟩, 5) := ⟨⟨by decide +kernel, by decide +kernel⟩, List.mem_of_getElem? (i := 8) (by decide +kernel), List.mem_of_getElem? (i := 195) (by decide +kernel), List.mem_of_getElem? (i := 196) (by decide +kernel)⟩
theorem lw_p6 : lw_okq (⟨"LateRoutes", "countFailing", "()I"⟩, 5) := ⟨⟨by decide +kernel, by decide +kernel⟩, List.mem_of_getElem? (i := 8) (by decide +kernel), List.mem_of_getElem? (i := 243) (by decide +kernel), List.mem_of_getElem? (i := 244) (by decide +kernel)⟩
theorem lw_p7 : lw_okq (⟨"LateRoutes", "countMoved", "()I"⟩, 5) := ⟨⟨by decide +kernel, by decide +kernel⟩, List.mem_of_getElem? (i := 8) (by decide +kernel), List.mem_of_getElem? (i := 268) (by decide +kernel), List.mem_of_getElem? (i := 269) (by decide +kernel)⟩
theorem lw_p8 : lw_okq (⟨"LateRoutes", "sumHarm", "()J"⟩, 5) := ⟨⟨by decide +kernel, by decide +kernel⟩, List.mem_of_getElem? (i := 8) (by decide +kernel), List.mem_of_getElem? (i := 281) (by decide +kernel), List.mem_of_getElem? (i := 282) (by decide +kernel)⟩
theorem lw_p9 : lw_okq (⟨"LateRoutes", "countActs", "()I"⟩, 5) := ⟨⟨by decide +kernel, by decide +kernel⟩, List.mem_of_getElem? (i := 8) (by decide +kernel), List.mem_of_getElem? (i := 290) (by decide +kernel), List.mem_of_getElem? (i := 291) (by decide +kernel)⟩
theorem lw_p10 : lw_okq (⟨"LateRoutes", "keepChoice", "()V"⟩, 5) := ⟨⟨by decide +kernel, by decide +kernel⟩, List.mem_of_getElem? (i := 8) (by decide +kernel), List.mem_of_getElem? (i := 298) (by decide +kernel), List.mem_of_getElem? (i := 299) (by decide +kernel)⟩
theorem lw_p11 : lw_okq (⟨"LateRoutes", "pickNextChoice", "()Z"⟩, 5) := ⟨⟨by decide +kernel, by decide +kernel⟩, List.mem_of_getElem? (i := 8) (by decide +kernel), List.mem_of_getElem? (i := 306) (by decide +kernel), List.mem_of_getElem? (i := 307) (by decide +kernel)⟩
theorem lw_p12 : lw_okq (⟨"LateRoutes", "takeKeptChoice", "()V"⟩, 5) := ⟨⟨by decide +kernel, by decide +kernel⟩, List.mem_of_getElem? (i := 8) (by decide +kernel), List.mem_of_getElem? (i := 314) (by decide +kernel), List.mem_of_getElem? (i := 315) (by decide +kernel)⟩
theorem lw_p13 : lw_okq (⟨"LateRoutesModel", "isLine", "(I)Z"⟩, 23) := ⟨⟨by decide +kernel, by decide +kernel⟩, List.mem_of_getElem? (i := 343) (by decide +kernel), List.mem_of_getElem? (i := 435) (by decide +kernel), List.mem_of_getElem? (i := 436) (by decide +kernel)⟩
theorem lw_p14 : lw_okq (⟨"LateRoutesModel", "isLoad", "(I)Z"⟩, 23) := ⟨⟨by decide +kernel, by decide +kernel⟩, List.mem_of_getElem? (i := 343) (by decide +kernel), List.mem_of_getElem? (i := 445) (by decide +kernel), List.mem_of_getElem? (i := 446) (by decide +kernel)⟩
theorem lw_p15 : lw_okq (⟨"LateRoutesModel", "isDirect", "(I)Z"⟩, 23) := ⟨⟨by decide +kernel, by decide +kernel⟩, List.mem_of_getElem? (i := 343) (by decide +kernel), List.mem_of_getElem? (i := 450) (by decide +kernel), List.mem_of_getElem? (i := 451) (by decide +kernel)⟩
def lw_privs_1 : List (MethodName × Nat) := [(⟨"LateRoutes", "settle", "()V"⟩, 5), (⟨"LateRoutes$Load", "pickedOption", "()LLateRoutes$Option;"⟩, 12), (⟨"LateRoutes$Load", "catches", "(LLateRoutes$Line;)Z"⟩, 12), (⟨"LateRoutes", "findLine", "(I)LLateRoutes$Line;"⟩, 5), (⟨"LateRoutes", "fileByLeaving", "(LLateRoutes$Load;)V"⟩, 5), (⟨"LateRoutes", "findLoad", "(I)LLateRoutes$Load;"⟩, 5), (⟨"LateRoutes", "countFailing", "()I"⟩, 5), (⟨"LateRoutes", "countMoved", "()I"⟩, 5), (⟨"LateRoutes", "sumHarm", "()J"⟩, 5), (⟨"LateRoutes", "countActs", "()I"⟩, 5), (⟨"LateRoutes", "keepChoice", "()V"⟩, 5), (⟨"LateRoutes", "pickNextChoice", "()Z"⟩, 5), (⟨"LateRoutes", "takeKeptChoice", "()V"⟩, 5), (⟨"LateRoutesModel", "isLine", "(I)Z"⟩, 23), (⟨"LateRoutesModel", "isLoad", "(I)Z"⟩, 23), (⟨"LateRoutesModel", "isDirect", "(I)Z"⟩, 23)]
theorem lw_r1 : ∀ q ∈ lw_privs_1, lw_okq q := List.forall_mem_cons.mpr ⟨lw_p0, List.forall_mem_cons.mpr ⟨lw_p1, List.forall_mem_cons.mpr ⟨lw_p2, List.forall_mem_cons.mpr ⟨lw_p3, List.forall_mem_cons.mpr ⟨lw_p4, List.forall_mem_cons.mpr ⟨lw_p5, List.forall_mem_cons.mpr ⟨lw_p6, List.forall_mem_cons.mpr ⟨lw_p7, List.forall_mem_cons.mpr ⟨lw_p8, List.forall_mem_cons.mpr ⟨lw_p9, List.forall_mem_cons.mpr ⟨lw_p10, List.forall_mem_cons.mpr ⟨lw_p11, List.forall_mem_cons.mpr ⟨lw_p12, List.forall_mem_cons.mpr ⟨lw_p13, List.forall_mem_cons.mpr ⟨lw_p14, List.forall_mem_cons.mpr ⟨lw_p15, fun _ h => absurd h List.not_mem_nil⟩⟩⟩⟩⟩⟩⟩⟩⟩⟩⟩⟩⟩⟩⟩⟩
theorem lw_p16 : lw_okq (⟨"LateRoutesModel", "reckon", "()V"⟩, 23) := ⟨⟨by decide +kernel, by decide +kernel⟩, List.mem_of_getElem? (i := 343) (by decide +kernel), List.mem_of_getElem? (i := 464) (by decide +kernel), List.mem_of_getElem? (i := 465) (by decide +kernel)⟩
theorem lw_p17 : lw_okq (⟨"LateRoutesModel", "depart", "(I)V"⟩, 23) := ⟨⟨by decide +kernel, by decide +kernel⟩, List.mem_of_getElem? (i := 343) (by decide +kernel), List.mem_of_getElem? (i := 469) (by decide +kernel), List.mem_of_getElem? (i := 470) (by decide +kernel)⟩
theorem lw_p18 : lw_okq (⟨"LateRoutesModel", "there", "(I)J"⟩, 23) := ⟨⟨by decide +kernel, by decide +kernel⟩, List.mem_of_getElem? (i := 343) (by decide +kernel), List.mem_of_getElem? (i := 473) (by decide +kernel), List.mem_of_getElem? (i := 474) (by decide +kernel)⟩
theorem lw_p19 : lw_okq (⟨"LateRoutesModel", "arrive", "(I)V"⟩, 23) := ⟨⟨by decide +kernel, by decide +kernel⟩, List.mem_of_getElem? (i := 343) (by decide +kernel), List.mem_of_getElem? (i := 478) (by decide +kernel), List.mem_of_getElem? (i := 479) (by decide +kernel)⟩
theorem lw_p20 : lw_okq (⟨"LateRoutesModel", "harm", "()J"⟩, 23) := ⟨⟨by decide +kernel, by decide +kernel⟩, List.mem_of_getElem? (i := 343) (by decide +kernel), List.mem_of_getElem? (i := 492) (by decide +kernel), List.mem_of_getElem? (i := 493) (by decide +kernel)⟩
theorem lw_p21 : lw_okq (⟨"LateRoutesModel", "actsNow", "()I"⟩, 23) := ⟨⟨by decide +kernel, by decide +kernel⟩, List.mem_of_getElem? (i := 343) (by decide +kernel), List.mem_of_getElem? (i := 496) (by decide +kernel), List.mem_of_getElem? (i := 497) (by decide +kernel)⟩
theorem lw_p22 : lw_okq (⟨"LateRoutesModel", "next", "()Z"⟩, 23) := ⟨⟨by decide +kernel, by decide +kernel⟩, List.mem_of_getElem? (i := 343) (by decide +kernel), List.mem_of_getElem? (i := 500) (by decide +kernel), List.mem_of_getElem? (i := 501) (by decide +kernel)⟩
def lw_privs_2 : List (MethodName × Nat) := [(⟨"LateRoutesModel", "reckon", "()V"⟩, 23), (⟨"LateRoutesModel", "depart", "(I)V"⟩, 23), (⟨"LateRoutesModel", "there", "(I)J"⟩, 23), (⟨"LateRoutesModel", "arrive", "(I)V"⟩, 23), (⟨"LateRoutesModel", "harm", "()J"⟩, 23), (⟨"LateRoutesModel", "actsNow", "()I"⟩, 23), (⟨"LateRoutesModel", "next", "()Z"⟩, 23)]
theorem lw_r2 : ∀ q ∈ lw_privs_2, lw_okq q := List.forall_mem_cons.mpr ⟨lw_p16, List.forall_mem_cons.mpr ⟨lw_p17, List.forall_mem_cons.mpr ⟨lw_p18, List.forall_mem_cons.mpr ⟨lw_p19, List.forall_mem_cons.mpr ⟨lw_p20, List.forall_mem_cons.mpr ⟨lw_p21, List.forall_mem_cons.mpr ⟨lw_p22, fun _ h => absurd h List.not_mem_nil⟩⟩⟩⟩⟩⟩⟩
def lw_privs : List (MethodName × Nat) := lw_privs_1 ++ (lw_privs_2)
def lw_tbl : List Cond := k2_sels lw_privs ++ tables_1
theorem lw_privs_ok : ∀ q ∈ lw_privs, lw_okq q := by
  show ∀ q ∈ lw_privs_1 ++ (lw_privs_2), lw_okq q
  exact List.forall_mem_append.mpr ⟨lw_r1, lw_r2⟩
end
section
/-! NAMES: printed by wip/gen/run.py out of javap's listing and the tables' words -/
def R_LR : String := "LateRoutes"
def T_LR : u_T := fun k => match k with
  | 0 => ("LateRoutes", "lines", "[LLateRoutes$Line;", true)
  | 1 => ("LateRoutes", "lineCount", "I", false)
  | 2 => ("LateRoutes", "loads", "[LLateRoutes$Load;", true)
  | 3 => ("LateRoutes", "loadsByLeaving", "[LLateRoutes$Load;", true)
  | _ => ("LateRoutes", "loadCount", "I", false)
def t_LR : Nat → FieldType := fun k => match k with
  | 0 => (.array (.object "LateRoutes$Line"))
  | 1 => .int
  | 2 => (.array (.object "LateRoutes$Load"))
  | 3 => (.array (.object "LateRoutes$Load"))
  | _ => .int
theorem n_LR : ∀ a, a < 5 → ∀ b, b < 5 → a ≠ b → (T_LR a).2.1 ≠ (T_LR b).2.1 := by decide +kernel
theorem t_LR_ok : ∀ k, k < 5 → parseFieldDescriptor (T_LR k).2.2.1 = some (t_LR k) := by decide +kernel
def R_Li : String := "LateRoutes$Line"
def T_Li : u_T := fun k => match k with
  | 0 => ("LateRoutes$Line", "number", "I", true)
  | 1 => ("LateRoutes$Line", "from", "I", true)
  | 2 => ("LateRoutes$Line", "to", "I", true)
  | 3 => ("LateRoutes$Line", "leaves", "J", true)
  | 4 => ("LateRoutes$Line", "arrives", "J", true)
  | 5 => ("LateRoutes$Line", "delay", "J", false)
  | 6 => ("LateRoutes$Line", "most", "J", false)
  | _ => ("LateRoutes$Line", "departsAt", "J", false)
def t_Li : Nat → FieldType := fun k => match k with
  | 0 => .int
  | 1 => .int
  | 2 => .int
  | 3 => .long
  | 4 => .long
  | 5 => .long
  | 6 => .long
  | _ => .long
theorem n_Li : ∀ a, a < 8 → ∀ b, b < 8 → a ≠ b → (T_Li a).2.1 ≠ (T_Li b).2.1 := by decide +kernel
theorem t_Li_ok : ∀ k, k < 8 → parseFieldDescriptor (T_Li k).2.2.1 = some (t_Li k) := by decide +kernel
def R_Op : String := "LateRoutes$Option"
def T_Op : u_T := fun k => match k with
  | 0 => ("LateRoutes$Option", "kind", "I", true)
  | 1 => ("LateRoutes$Option", "onward", "LLateRoutes$Line;", true)
  | _ => ("LateRoutes$Option", "cost", "J", true)
def t_Op : Nat → FieldType := fun k => match k with
  | 0 => .int
  | 1 => (.object "LateRoutes$Line")
  | _ => .long
theorem n_Op : ∀ a, a < 3 → ∀ b, b < 3 → a ≠ b → (T_Op a).2.1 ≠ (T_Op b).2.1 := by decide +kernel
theorem t_Op_ok : ∀ k, k < 3 → parseFieldDescriptor (T_Op k).2.2.1 = some (t_Op k) := by decide +kernel
def R_Lo : String := "LateRoutes$Load"
def T_Lo : u_T := fun k => match k with
  | 0 => ("LateRoutes$Load", "first", "LLateRoutes$Line;", true)
  | 1 => ("LateRoutes$Load", "to", "I", true)
  | 2 => ("LateRoutes$Load", "due", "J", true)
  | 3 => ("LateRoutes$Load", "weight", "I", true)
  | 4 => ("LateRoutes$Load", "options", "[LLateRoutes$Option;", true)
  | 5 => ("LateRoutes$Load", "optionCount", "I", false)
  | 6 => ("LateRoutes$Load", "picked", "I", false)
  | 7 => ("LateRoutes$Load", "keptPick", "I", false)
  | 8 => ("LateRoutes$Load", "coming", "J", false)
  | 9 => ("LateRoutes$Load", "arrivesAt", "J", false)
  | 10 => ("LateRoutes$Load", "arrivedBefore", "J", false)
  | _ => ("LateRoutes$Load", "isLeft", "Z", false)
def t_Lo : Nat → FieldType := fun k => match k with
  | 0 => (.object "LateRoutes$Line")
  | 1 => .int
  | 2 => .long
  | 3 => .int
  | 4 => (.array (.object "LateRoutes$Option"))
  | 5 => .int
  | 6 => .int
  | 7 => .int
  | 8 => .long
  | 9 => .long
  | 10 => .long
  | _ => .boolean
theorem n_Lo : ∀ a, a < 12 → ∀ b, b < 12 → a ≠ b → (T_Lo a).2.1 ≠ (T_Lo b).2.1 := by decide +kernel
theorem t_Lo_ok : ∀ k, k < 12 → parseFieldDescriptor (T_Lo k).2.2.1 = some (t_Lo k) := by decide +kernel
def R_Mo : String := "LateRoutesModel"
def T_Mo : u_T := fun k => match k with
  | 0 => ("LateRoutesModel", "thrown", "I", false)
  | 1 => ("LateRoutesModel", "lines", "I", false)
  | 2 => ("LateRoutesModel", "froms", "[I", true)
  | 3 => ("LateRoutesModel", "tos", "[I", true)
  | 4 => ("LateRoutesModel", "leaves", "[J", true)
  | 5 => ("LateRoutesModel", "arrives", "[J", true)
  | 6 => ("LateRoutesModel", "delays", "[J", true)
  | 7 => ("LateRoutesModel", "mosts", "[J", true)
  | 8 => ("LateRoutesModel", "departed", "[J", true)
  | 9 => ("LateRoutesModel", "loads", "I", false)
  | 10 => ("LateRoutesModel", "firsts", "[I", true)
  | 11 => ("LateRoutesModel", "goals", "[I", true)
  | 12 => ("LateRoutesModel", "dues", "[J", true)
  | 13 => ("LateRoutesModel", "weights", "[I", true)
  | 14 => ("LateRoutesModel", "options", "[I", true)
  | 15 => ("LateRoutesModel", "chosen", "[I", true)
  | 16 => ("LateRoutesModel", "kinds", "[I", true)
  | 17 => ("LateRoutesModel", "by", "[I", true)
  | 18 => ("LateRoutesModel", "costs", "[J", true)
  | 19 => ("LateRoutesModel", "came", "[J", true)
  | 20 => ("LateRoutesModel", "left", "[Z", true)
  | 21 => ("LateRoutesModel", "best", "[I", true)
  | _ => ("LateRoutesModel", "before", "[J", true)
def t_Mo : Nat → FieldType := fun k => match k with
  | 0 => .int
  | 1 => .int
  | 2 => (.array .int)
  | 3 => (.array .int)
  | 4 => (.array .long)
  | 5 => (.array .long)
  | 6 => (.array .long)
  | 7 => (.array .long)
  | 8 => (.array .long)
  | 9 => .int
  | 10 => (.array .int)
  | 11 => (.array .int)
  | 12 => (.array .long)
  | 13 => (.array .int)
  | 14 => (.array .int)
  | 15 => (.array .int)
  | 16 => (.array .int)
  | 17 => (.array .int)
  | 18 => (.array .long)
  | 19 => (.array .long)
  | 20 => (.array .boolean)
  | 21 => (.array .int)
  | _ => (.array .long)
theorem n_Mo : ∀ a, a < 23 → ∀ b, b < 23 → a ≠ b → (T_Mo a).2.1 ≠ (T_Mo b).2.1 := by decide +kernel
theorem t_Mo_ok : ∀ k, k < 23 → parseFieldDescriptor (T_Mo k).2.2.1 = some (t_Mo k) := by decide +kernel
def R_La : String := "LateRoutesLaw"
abbrev vwCl : List vw_C := [(R_LR, T_LR, 5), (R_Li, T_Li, 8), (R_Op, T_Op, 3), (R_Lo, T_Lo, 12), (R_Mo, T_Mo, 23)]
abbrev b_LR_init : ByteArray := prog_1_method_1_code
def y_LR_init : MethodName := ⟨R_LR, "<init>", "()V"⟩
abbrev b_Mo_init : ByteArray := prog_6_method_1_code
def y_Mo_init : MethodName := ⟨R_Mo, "<init>", "()V"⟩
abbrev b_LR_isWithin : ByteArray := prog_1_method_15_code
def y_LR_isWithin : MethodName := ⟨R_LR, "isWithin", "(JJJ)Z"⟩
abbrev b_LR_isPlace : ByteArray := prog_1_method_14_code
def y_LR_isPlace : MethodName := ⟨R_LR, "isPlace", "(I)Z"⟩
abbrev b_Li_init : ByteArray := prog_2_method_1_code
def y_Li_init : MethodName := ⟨R_Li, "<init>", "(IIIJJ)V"⟩
abbrev b_Li_forgetWaiting : ByteArray := prog_2_method_2_code
def y_Li_forgetWaiting : MethodName := ⟨R_Li, "forgetWaiting", "()V"⟩
abbrev b_Li_arrivesAt : ByteArray := prog_2_method_4_code
def y_Li_arrivesAt : MethodName := ⟨R_Li, "arrivesAt", "()J"⟩
abbrev b_Lo_pickedOption : ByteArray := prog_3_method_10_code
def y_Lo_pickedOption : MethodName := ⟨R_Lo, "pickedOption", "()LLateRoutes$Option;"⟩
abbrev b_Li_holdUntil : ByteArray := prog_2_method_3_code
def y_Li_holdUntil : MethodName := ⟨R_Li, "holdUntil", "(J)V"⟩
abbrev b_Lo_comeAndHold : ByteArray := prog_3_method_12_code
def y_Lo_comeAndHold : MethodName := ⟨R_Lo, "comeAndHold", "()V"⟩
abbrev b_Lo_isDirect : ByteArray := prog_3_method_2_code
def y_Lo_isDirect : MethodName := ⟨R_Lo, "isDirect", "()Z"⟩
abbrev b_Lo_catches : ByteArray := prog_3_method_14_code
def y_Lo_catches : MethodName := ⟨R_Lo, "catches", "(LLateRoutes$Line;)Z"⟩
abbrev b_Lo_arrive : ByteArray := prog_3_method_13_code
def y_Lo_arrive : MethodName := ⟨R_Lo, "arrive", "()V"⟩
abbrev b_LR_settle : ByteArray := prog_1_method_19_code
def y_LR_settle : MethodName := ⟨R_LR, "settle", "()V"⟩
abbrev b_LR_line : ByteArray := prog_1_method_2_code
def y_LR_line : MethodName := ⟨R_LR, "line", "(IIJJ)I"⟩
abbrev b_Mo_in : ByteArray := prog_6_method_3_code
def y_Mo_in : MethodName := ⟨R_Mo, "in", "(JJJ)Z"⟩
abbrev b_Mo_line : ByteArray := prog_6_method_7_code
def y_Mo_line : MethodName := ⟨R_Mo, "line", "(IIJJ)I"⟩
abbrev b_LR_findLine : ByteArray := prog_1_method_16_code
def y_LR_findLine : MethodName := ⟨R_LR, "findLine", "(I)LLateRoutes$Line;"⟩
abbrev b_Lo_init : ByteArray := prog_3_method_1_code
def y_Lo_init : MethodName := ⟨R_Lo, "<init>", "(LLateRoutes$Line;IJI)V"⟩
abbrev b_LR_fileByLeaving : ByteArray := prog_1_method_18_code
def y_LR_fileByLeaving : MethodName := ⟨R_LR, "fileByLeaving", "(LLateRoutes$Load;)V"⟩
abbrev b_LR_load : ByteArray := prog_1_method_3_code
def y_LR_load : MethodName := ⟨R_LR, "load", "(IIJI)I"⟩
abbrev b_Mo_isLine : ByteArray := prog_6_method_4_code
def y_Mo_isLine : MethodName := ⟨R_Mo, "isLine", "(I)Z"⟩
abbrev b_Mo_load : ByteArray := prog_6_method_8_code
def y_Mo_load : MethodName := ⟨R_Mo, "load", "(IIJI)I"⟩
abbrev b_LR_findLoad : ByteArray := prog_1_method_17_code
def y_LR_findLoad : MethodName := ⟨R_LR, "findLoad", "(I)LLateRoutes$Load;"⟩
abbrev b_Lo_canGoOnBy : ByteArray := prog_3_method_3_code
def y_Lo_canGoOnBy : MethodName := ⟨R_Lo, "canGoOnBy", "(LLateRoutes$Line;)Z"⟩
abbrev b_Lo_hasRoom : ByteArray := prog_3_method_4_code
def y_Lo_hasRoom : MethodName := ⟨R_Lo, "hasRoom", "()Z"⟩
abbrev b_Op_init : ByteArray := prog_4_method_1_code
def y_Op_init : MethodName := ⟨R_Op, "<init>", "(ILLateRoutes$Line;J)V"⟩
abbrev b_Lo_addOption : ByteArray := prog_3_method_5_code
def y_Lo_addOption : MethodName := ⟨R_Lo, "addOption", "(LLateRoutes$Option;)I"⟩
abbrev b_LR_option : ByteArray := prog_1_method_4_code
def y_LR_option : MethodName := ⟨R_LR, "option", "(IIIJ)I"⟩
abbrev b_Mo_isLoad : ByteArray := prog_6_method_5_code
def y_Mo_isLoad : MethodName := ⟨R_Mo, "isLoad", "(I)Z"⟩
abbrev b_Mo_isDirect : ByteArray := prog_6_method_6_code
def y_Mo_isDirect : MethodName := ⟨R_Mo, "isDirect", "(I)Z"⟩
abbrev b_Mo_option : ByteArray := prog_6_method_9_code
def y_Mo_option : MethodName := ⟨R_Mo, "option", "(IIIJ)I"⟩
abbrev b_LR_waits : ByteArray := prog_1_method_5_code
def y_LR_waits : MethodName := ⟨R_LR, "waits", "(IJ)I"⟩
abbrev b_Mo_waits : ByteArray := prog_6_method_10_code
def y_Mo_waits : MethodName := ⟨R_Mo, "waits", "(IJ)I"⟩
abbrev b_Lo_minutesBehind : ByteArray := prog_3_method_17_code
def y_Lo_minutesBehind : MethodName := ⟨R_Lo, "minutesBehind", "()J"⟩
abbrev b_LR_countFailing : ByteArray := prog_1_method_20_code
def y_LR_countFailing : MethodName := ⟨R_LR, "countFailing", "()I"⟩
abbrev b_LR_late : ByteArray := prog_1_method_6_code
def y_LR_late : MethodName := ⟨R_LR, "late", "(IJ)I"⟩
abbrev b_Mo_there : ByteArray := prog_6_method_11_code
def y_Mo_there : MethodName := ⟨R_Mo, "there", "(I)J"⟩
abbrev b_Mo_depart : ByteArray := prog_6_method_12_code
def y_Mo_depart : MethodName := ⟨R_Mo, "depart", "(I)V"⟩
abbrev b_Mo_arrive : ByteArray := prog_6_method_13_code
def y_Mo_arrive : MethodName := ⟨R_Mo, "arrive", "(I)V"⟩
abbrev b_Mo_reckon : ByteArray := prog_6_method_14_code
def y_Mo_reckon : MethodName := ⟨R_Mo, "reckon", "()V"⟩
abbrev b_Mo_late : ByteArray := prog_6_method_17_code
def y_Mo_late : MethodName := ⟨R_Mo, "late", "(IJ)I"⟩
abbrev b_Lo_rememberArrival : ByteArray := prog_3_method_15_code
def y_Lo_rememberArrival : MethodName := ⟨R_Lo, "rememberArrival", "()V"⟩
abbrev b_Lo_concerns : ByteArray := prog_3_method_11_code
def y_Lo_concerns : MethodName := ⟨R_Lo, "concerns", "(LLateRoutes$Line;)Z"⟩
abbrev b_Lo_pickFirst : ByteArray := prog_3_method_6_code
def y_Lo_pickFirst : MethodName := ⟨R_Lo, "pickFirst", "()V"⟩
abbrev b_Lo_hasMoved : ByteArray := prog_3_method_16_code
def y_Lo_hasMoved : MethodName := ⟨R_Lo, "hasMoved", "()Z"⟩
abbrev b_LR_countMoved : ByteArray := prog_1_method_21_code
def y_LR_countMoved : MethodName := ⟨R_LR, "countMoved", "()I"⟩
abbrev b_LR_tell : ByteArray := prog_1_method_7_code
def y_LR_tell : MethodName := ⟨R_LR, "tell", "(IJ)I"⟩
abbrev b_Mo_tell : ByteArray := prog_6_method_18_code
def y_Mo_tell : MethodName := ⟨R_Mo, "tell", "(IJ)I"⟩
abbrev b_Lo_harm : ByteArray := prog_3_method_18_code
def y_Lo_harm : MethodName := ⟨R_Lo, "harm", "()J"⟩
abbrev b_LR_sumHarm : ByteArray := prog_1_method_23_code
def y_LR_sumHarm : MethodName := ⟨R_LR, "sumHarm", "()J"⟩
abbrev b_Lo_isAct : ByteArray := prog_3_method_19_code
def y_Lo_isAct : MethodName := ⟨R_Lo, "isAct", "()Z"⟩
abbrev b_LR_countActs : ByteArray := prog_1_method_22_code
def y_LR_countActs : MethodName := ⟨R_LR, "countActs", "()I"⟩
abbrev b_Lo_keepPicked : ByteArray := prog_3_method_8_code
def y_Lo_keepPicked : MethodName := ⟨R_Lo, "keepPicked", "()V"⟩
abbrev b_LR_keepChoice : ByteArray := prog_1_method_25_code
def y_LR_keepChoice : MethodName := ⟨R_LR, "keepChoice", "()V"⟩
abbrev b_Lo_pickNext : ByteArray := prog_3_method_7_code
def y_Lo_pickNext : MethodName := ⟨R_Lo, "pickNext", "()Z"⟩
abbrev b_LR_pickNextChoice : ByteArray := prog_1_method_24_code
def y_LR_pickNextChoice : MethodName := ⟨R_LR, "pickNextChoice", "()Z"⟩
abbrev b_Lo_takeKept : ByteArray := prog_3_method_9_code
def y_Lo_takeKept : MethodName := ⟨R_Lo, "takeKept", "()V"⟩
abbrev b_LR_takeKeptChoice : ByteArray := prog_1_method_26_code
def y_LR_takeKeptChoice : MethodName := ⟨R_LR, "takeKeptChoice", "()V"⟩
abbrev b_LR_solve : ByteArray := prog_1_method_8_code
def y_LR_solve : MethodName := ⟨R_LR, "solve", "()J"⟩
abbrev b_Mo_harm : ByteArray := prog_6_method_15_code
def y_Mo_harm : MethodName := ⟨R_Mo, "harm", "()J"⟩
abbrev b_Mo_actsNow : ByteArray := prog_6_method_16_code
def y_Mo_actsNow : MethodName := ⟨R_Mo, "actsNow", "()I"⟩
abbrev b_Mo_next : ByteArray := prog_6_method_19_code
def y_Mo_next : MethodName := ⟨R_Mo, "next", "()Z"⟩
abbrev b_Mo_solve : ByteArray := prog_6_method_20_code
def y_Mo_solve : MethodName := ⟨R_Mo, "solve", "()J"⟩
abbrev b_LR_chosen : ByteArray := prog_1_method_9_code
def y_LR_chosen : MethodName := ⟨R_LR, "chosen", "(I)I"⟩
abbrev b_Mo_chosen : ByteArray := prog_6_method_21_code
def y_Mo_chosen : MethodName := ⟨R_Mo, "chosen", "(I)I"⟩
abbrev b_LR_arrival : ByteArray := prog_1_method_10_code
def y_LR_arrival : MethodName := ⟨R_LR, "arrival", "(I)J"⟩
abbrev b_Mo_arrival : ByteArray := prog_6_method_22_code
def y_Mo_arrival : MethodName := ⟨R_Mo, "arrival", "(I)J"⟩
abbrev b_LR_departs : ByteArray := prog_1_method_11_code
def y_LR_departs : MethodName := ⟨R_LR, "departs", "(I)J"⟩
abbrev b_Mo_departs : ByteArray := prog_6_method_23_code
def y_Mo_departs : MethodName := ⟨R_Mo, "departs", "(I)J"⟩
abbrev b_LR_none : ByteArray := prog_1_method_12_code
def y_LR_none : MethodName := ⟨R_LR, "none", "(I)I"⟩
abbrev b_Mo_none : ByteArray := prog_6_method_24_code
def y_Mo_none : MethodName := ⟨R_Mo, "none", "(I)I"⟩
abbrev b_LR_acts : ByteArray := prog_1_method_13_code
def y_LR_acts : MethodName := ⟨R_LR, "acts", "()I"⟩
abbrev b_Mo_acts : ByteArray := prog_6_method_25_code
def y_Mo_acts : MethodName := ⟨R_Mo, "acts", "()I"⟩
abbrev b_La_law : ByteArray := code
end
section
/-! THE MEMORY: a world that is a function from addresses to cells, beside the heap's size; all of it lies at b0 or above -/
/-- a cell: an array of the kind k (a place in the list of the array types), or an object of a class of the list -/
abbrev mx_E : Type := (Nat × vp_A) ⊕ (Nat × List Value)
abbrev mx_Mem : Type := Nat × (Nat → Option mx_E)
/-- where the memory begins, the classes' numbers and slots, the array classes' numbers -/
abbrev mx_G : Type := Nat × va_G × (Nat → ClassId)
def mx_T (dA : Nat → ClassId) (e : mx_E) : va_E := match e with
  | .inl x => .inl (dA x.1, x.2)
  | .inr o => .inr o
def mx_M (cl : List vw_C) (G : mx_G) (mem : mx_Mem) (H : Heap) : Prop :=
  H.size = mem.1 ∧ ∀ (a : Nat) (e : mx_E), mem.2 a = some e → G.1 ≤ a ∧ va_at G.2.1 cl (a, mx_T G.2.2 e) H
def mx_A (G : mx_G) : Nat → Prop := fun q => G.1 ≤ q
/-- an object of the class ci -/
def mx_O (mem : mx_Mem) (r : Option Nat) (ci : Nat) : Option (Nat × List Value) := match r with
  | none => none
  | some a => match mem.2 a with
    | some (.inr o) => if o.1 = ci then some (a, o.2) else none
    | _ => none
/-- an array of the kind kd -/
def mx_R (mem : mx_Mem) (r : Option Nat) (kd : Nat) : Option (Nat × vp_A) := match r with
  | none => none
  | some a => match mem.2 a with
    | some (.inl x) => if x.1 = kd then some (a, x.2) else none
    | _ => none
theorem mx_O_spec {mem : mx_Mem} {r : Option Nat} {ci a : Nat} {fs : List Value} (h : mx_O mem r ci = some (a, fs)) : r = some a ∧ mem.2 a = some (.inr (ci, fs)) := by
  unfold mx_O at h
  split at h
  · cases h
  · split at h
    · rename_i b o ho
      split at h
      · rename_i hc
        cases h
        exact ⟨rfl, by rw [ho, ← hc]⟩
      · cases h
    · cases h
theorem mx_R_spec {mem : mx_Mem} {r : Option Nat} {kd a : Nat} {x : vp_A} (h : mx_R mem r kd = some (a, x)) : r = some a ∧ mem.2 a = some (.inl (kd, x)) := by
  unfold mx_R at h
  split at h
  · cases h
  · split at h
    · rename_i b o ho
      split at h
      · rename_i hc
        cases h
        exact ⟨rfl, by rw [ho, ← hc]⟩
      · cases h
    · cases h
theorem mx_O_of {mem : mx_Mem} {ci a : Nat} {fs : List Value} (h : mem.2 a = some (.inr (ci, fs))) : mx_O mem (some a) ci = some (a, fs) := by
  simp [mx_O, h]
theorem mx_R_of {mem : mx_Mem} {kd a : Nat} {x : vp_A} (h : mem.2 a = some (.inl (kd, x))) : mx_R mem (some a) kd = some (a, x) := by
  simp [mx_R, h]
/-- reads of fields -/
def mx_gi (mem : mx_Mem) (r : Option Nat) (ci k : Nat) : Option Int32 := match mx_O mem r ci with
  | some q => (match q.2[k]? with
    | some (.int v) => some v
    | _ => none)
  | none => none
def mx_gl (mem : mx_Mem) (r : Option Nat) (ci k : Nat) : Option Int64 := match mx_O mem r ci with
  | some q => (match q.2[k]? with
    | some (.long v) => some v
    | _ => none)
  | none => none
def mx_gr (mem : mx_Mem) (r : Option Nat) (ci k : Nat) : Option (Option Nat) := match mx_O mem r ci with
  | some q => (match q.2[k]? with
    | some (.ref v) => some (some v)
    | some .null => some none
    | _ => none)
  | none => none
theorem mx_gi_spec {mem : mx_Mem} {r : Option Nat} {ci k : Nat} {v : Int32} (h : mx_gi mem r ci k = some v) : ∃ (a : Nat) (fs : List Value), mx_O mem r ci = some (a, fs) ∧ fs[k]? = some (.int v) := by
  unfold mx_gi at h
  split at h
  · rename_i q hq
    split at h
    · rename_i w hw
      cases h
      exact ⟨q.1, q.2, hq, hw⟩
    · cases h
  · cases h
theorem mx_gl_spec {mem : mx_Mem} {r : Option Nat} {ci k : Nat} {v : Int64} (h : mx_gl mem r ci k = some v) : ∃ (a : Nat) (fs : List Value), mx_O mem r ci = some (a, fs) ∧ fs[k]? = some (.long v) := by
  unfold mx_gl at h
  split at h
  · rename_i q hq
    split at h
    · rename_i w hw
      cases h
      exact ⟨q.1, q.2, hq, hw⟩
    · cases h
  · cases h
theorem mx_gr_spec {mem : mx_Mem} {r : Option Nat} {ci k : Nat} {v : Option Nat} (h : mx_gr mem r ci k = some v) : ∃ (a : Nat) (fs : List Value), mx_O mem r ci = some (a, fs) ∧ fs[k]? = some (va_rf v) := by
  unfold mx_gr at h
  split at h
  · rename_i q hq
    split at h
    · rename_i w hw
      cases h
      exact ⟨q.1, q.2, hq, hw⟩
    · rename_i hw
      cases h
      exact ⟨q.1, q.2, hq, hw⟩
    · cases h
  · cases h
/-- a field is written -/
def mx_p (mem : mx_Mem) (r : Option Nat) (ci k : Nat) (v : Value) : Option mx_Mem := match mx_O mem r ci with
  | some q => if k < q.2.length then some (mem.1, va_up mem.2 q.1 (some (.inr (ci, q.2.set k v)))) else none
  | none => none
theorem mx_p_spec {mem mem' : mx_Mem} {r : Option Nat} {ci k : Nat} {v : Value} (h : mx_p mem r ci k v = some mem') : ∃ (a : Nat) (fs : List Value), mx_O mem r ci = some (a, fs) ∧ k < fs.length ∧ mem' = (mem.1, va_up mem.2 a (some (.inr (ci, fs.set k v)))) := by
  unfold mx_p at h
  split at h
  · rename_i q hq
    split at h
    · rename_i hk
      cases h
      exact ⟨q.1, q.2, hq, hk, rfl⟩
    · cases h
  · cases h
/-- an object, an array more -/
def mx_n (mem : mx_Mem) (e : mx_E) : mx_Mem := (mem.1 + 1, va_up mem.2 mem.1 (some e))
/-- arrays: length, and those of references: read, write -/
def mx_al (mem : mx_Mem) (r : Option Nat) (kd : Nat) : Option Int32 := match mx_R mem r kd with
  | some q => some (Int32.ofNat q.2.1)
  | none => none
def mx_ag (mem : mx_Mem) (r : Option Nat) (kd : Nat) (i : Int32) : Option (Option Nat) := match mx_R mem r kd with
  | some (_, (n, .inr (.inr (.inr (.inr f))))) => if 0 ≤ i ∧ i.toNatClampNeg < n then some (f i.toNatClampNeg) else none
  | _ => none
def mx_as (mem : mx_Mem) (r : Option Nat) (kd : Nat) (i : Int32) (v : Option Nat) : Option mx_Mem := match mx_R mem r kd with
  | some (a, (n, .inr (.inr (.inr (.inr f))))) => if 0 ≤ i ∧ i.toNatClampNeg < n then some (mem.1, va_up mem.2 a (some (.inl (kd, n, .inr (.inr (.inr (.inr (va_up f i.toNatClampNeg v)))))))) else none
  | _ => none
/-- an object of the class ci is meant: its address -/
def mx_c (mem : mx_Mem) (r : Option Nat) (ci : Nat) : Option Nat := match mx_O mem r ci with
  | some q => some q.1
  | none => none
theorem mx_c_spec {mem : mx_Mem} {r : Option Nat} {ci a : Nat} (h : mx_c mem r ci = some a) : ∃ fs : List Value, mx_O mem r ci = some (a, fs) := by
  unfold mx_c at h
  split at h
  · rename_i q hq
    cases h
    exact ⟨q.2, hq⟩
  · cases h
theorem mx_al_spec {mem : mx_Mem} {r : Option Nat} {kd : Nat} {v : Int32} (h : mx_al mem r kd = some v) : ∃ (a : Nat) (x : vp_A), mx_R mem r kd = some (a, x) ∧ Int32.ofNat x.1 = v := by
  unfold mx_al at h
  split at h
  · rename_i q hq
    cases h
    exact ⟨q.1, q.2, hq, rfl⟩
  · cases h
theorem mx_in {i : Int32} {n : Nat} (h : 0 ≤ i ∧ i.toNatClampNeg < n) : vp_in i n := by
  intro q
  rcases q with q | q
  · have h1 := Int32.lt_iff_toInt_lt.mp q
    have h2 := Int32.le_iff_toInt_le.mp h.1
    omega
  · omega
theorem mx_ag_spec {mem : mx_Mem} {r : Option Nat} {kd : Nat} {i : Int32} {v : Option Nat} (h : mx_ag mem r kd i = some v) : ∃ (a n : Nat) (f : Nat → Option Nat), mx_R mem r kd = some (a, (n, .inr (.inr (.inr (.inr f))))) ∧ vp_in i n ∧ v = f i.toNatClampNeg := by
  unfold mx_ag at h
  split at h
  · rename_i a n f hq
    split at h
    · rename_i hi
      cases h
      exact ⟨a, n, f, hq, mx_in hi, rfl⟩
    · cases h
  · cases h
theorem mx_as_spec {mem mem' : mx_Mem} {r : Option Nat} {kd : Nat} {i : Int32} {v : Option Nat} (h : mx_as mem r kd i v = some mem') : ∃ (a n : Nat) (f : Nat → Option Nat), mx_R mem r kd = some (a, (n, .inr (.inr (.inr (.inr f))))) ∧ vp_in i n ∧ mem' = (mem.1, va_up mem.2 a (some (.inl (kd, n, .inr (.inr (.inr (.inr (va_up f i.toNatClampNeg v)))))))) := by
  unfold mx_as at h
  split at h
  · rename_i a n f hq
    split at h
    · rename_i hi
      cases h
      exact ⟨a, n, f, hq, mx_in hi, rfl⟩
    · cases h
  · cases h
/-- a step of a computation that may fail -/
theorem mx_b {α β : Type} {o : Option α} {f : α → Option β} {r : β} (h : o.bind f = some r) : ∃ v, o = some v ∧ f v = some r := by
  cases o with
  | none => cases h
  | some v => exact ⟨v, rfl, h⟩
/-- the memory behind a write, behind a making -/
theorem mx_M.put {cl : List vw_C} {G : mx_G} {mem : mx_Mem} {H H1 : Heap} {a : Nat} {e : mx_E} (h : mx_M cl G mem H) {e0 : mx_E} (h0 : mem.2 a = some e0) (z : H1.size = H.size) (oq : ∀ q : Nat, q ≠ a → H1[q]? = H[q]?) (he : va_at G.2.1 cl (a, mx_T G.2.2 e) H1) : mx_M cl G (mem.1, va_up mem.2 a (some e)) H1 := by
  refine ⟨z.trans h.1, fun b x hx => ?_⟩
  by_cases hb : b = a
  · subst hb
    dsimp only at hx
    rw [va_up_self] at hx
    cases hx
    exact ⟨(h.2 b e0 h0).1, he⟩
  · dsimp only at hx
    rw [va_up_ne _ _ hb] at hx
    exact ⟨(h.2 b x hx).1, (h.2 b x hx).2.kept (oq b hb)⟩
theorem mx_M.lt {cl : List vw_C} {G : mx_G} {mem : mx_Mem} {H : Heap} (h : mx_M cl G mem H) {a : Nat} {e : mx_E} (ha : mem.2 a = some e) : a < mem.1 := by
  have h1 := (h.2 a e ha).2.lt
  rw [h.1] at h1
  exact h1
theorem mx_M.push {cl : List vw_C} {G : mx_G} {mem : mx_Mem} {H H1 : Heap} {e : mx_E} (h : mx_M cl G mem H) (hb : G.1 ≤ H.size) (z : H1.size = H.size + 1) (oq : ∀ q : Nat, q < H.size → H1[q]? = H[q]?) (he : va_at G.2.1 cl (H.size, mx_T G.2.2 e) H1) : mx_M cl G (mx_n mem e) H1 := by
  refine ⟨by rw [z, h.1]; rfl, fun b x hx => ?_⟩
  by_cases hb1 : b = mem.1
  · subst hb1
    rw [show (mx_n mem e).2 mem.1 = some e from va_up_self _ _ _] at hx
    cases hx
    rw [← h.1]
    exact ⟨hb, he⟩
  · rw [show (mx_n mem e).2 b = mem.2 b from va_up_ne _ _ hb1] at hx
    refine ⟨(h.2 b x hx).1, (h.2 b x hx).2.kept (oq b ?_)⟩
    exact (h.2 b x hx).2.lt
theorem mx_M.one {cl : List vw_C} {G : mx_G} {mem : mx_Mem} {H : Heap} (h : mx_M cl G mem H) {a : Nat} {e : mx_E} (ha : mem.2 a = some e) : va_P G.2.1 cl [(a, mx_T G.2.2 e)] H := by
  intro k q hk
  have hz : k < 1 := (List.getElem?_eq_some_iff.mp hk).1
  rw [show k = 0 by omega] at hk
  cases hk
  exact (h.2 a e ha).2
end
section
/-! STEPS over the memory: a row an instruction -/
theorem mx_cat (r : Option Nat) : (va_rf r).category = 1 := by cases r <;> rfl
theorem mx_ref_nar {C : String} (r : Option Nat) : narrow (.object C) (va_rf r) = va_rf r := by cases r <;> rfl
theorem mx_ref_fit {C : String} (r : Option Nat) : fits (.object C) (va_rf r) = true := by cases r <;> rfl
theorem mx_arr_nar {t : FieldType} (r : Option Nat) : narrow (.array t) (va_rf r) = va_rf r := by cases r <;> rfl
theorem mx_arr_fit {t : FieldType} (r : Option Nat) : fits (.array t) (va_rf r) = true := by cases r <;> rfl
/-- a boolean -/
def mx_z (x : Int32) : Option Unit := if x = 0 ∨ x = 1 then some () else none
theorem mx_z_spec {x : Int32} {u : Unit} (h : mx_z x = some u) : x = 0 ∨ x = 1 := by
  unfold mx_z at h
  split at h
  · assumption
  · cases h
theorem mx_z_nar {x : Int32} {u : Unit} (h : mx_z x = some u) : narrow .boolean (.int x) = .int x := by
  rcases mx_z_spec h with rfl | rfl <;> rfl
theorem mx_z_fit {x : Int32} {u : Unit} (h : mx_z x = some u) : fits .boolean (.int x) = true := by
  rcases mx_z_spec h with rfl | rfl <;> rfl
/-- null, or an object of the class ci -/
def mx_cn (mem : mx_Mem) (v : Option Nat) (ci : Nat) : Option Unit := match v with
  | none => some ()
  | some _ => match mx_O mem v ci with
    | some _ => some ()
    | none => none
theorem mx_c_eq {mem : mx_Mem} {r : Option Nat} {ci a : Nat} (h : mx_c mem r ci = some a) : r = some a := by
  obtain ⟨fs, h⟩ := mx_c_spec h
  exact (mx_O_spec h).1
section MXS
variable {p : Program} {l : Launch} {e : Env} {R : Room} {s : State} {m : MethodId} {args : Array Value} {below : List Frame} {meth : Method} {c : Code} {H : Heap} {locs : List Loc} {cells slots : Nat} {Q : State → Prop}
variable {cc : ByteArray} {pc : Nat} {ls : Array Slot} {rest : List Value} {cl : List vw_C} {G : mx_G} {mem mem' : mx_Mem} {H0 : Heap} {tys : List (ClassId × FieldType)}
theorem mx_aload_n (hexec : p.tables.exec = Jvm.exec) (hb : c.code = cc) {k : Fin 4} {i : Nat} {r : Option Nat} (hdg : decode cc pc = .ok (.aload_n k, 1)) (hi : (k : Nat) = i) (hl : ls[i]? = some (.val (va_rf r)))
    (kk : W p l e R s m args below meth c H locs cells slots Q (F0 m (pc + 1) ls (va_rf r :: rest))) : W p l e R s m args below meth c H locs cells slots Q (F0 m pc ls rest) := by
  cases r with
  | none => exact lv_aload_nN hexec hb hdg hi hl kk
  | some a => exact lv_aload_n hexec hb hdg hi hl kk
theorem mx_aload (hexec : p.tables.exec = Jvm.exec) (hb : c.code = cc) {i : Nat} {r : Option Nat} (hdg : decode cc pc = .ok (.aload i, 2)) (hl : ls[i]? = some (.val (va_rf r)))
    (kk : W p l e R s m args below meth c H locs cells slots Q (F0 m (pc + 2) ls (va_rf r :: rest))) : W p l e R s m args below meth c H locs cells slots Q (F0 m pc ls rest) := by
  cases r with
  | none => exact lv_aloadN hexec hb hdg hl kk
  | some a => exact lv_aload hexec hb hdg hl kk
theorem mx_astore_n (hexec : p.tables.exec = Jvm.exec) (hb : c.code = cc) {k : Fin 4} {i nL : Nat} {r : Option Nat} {lv lv' : List (Nat × Value)} (hdg : decode cc pc = .ok (.astore_n k, 1)) (hi : (k : Nat) = i) (h : lv_has ls nL lv) (hn : i < nL) (hl : (i, va_rf r) :: lv.filter (fun q => !(q.1 == i) && !(q.1 + 1 == i && q.2.category == 2)) = lv')
    (kk : ∀ ls' : Array Slot, lv_has ls' nL lv' → W p l e R s m args below meth c H locs cells slots Q (F0 m (pc + 1) ls' rest)) : W p l e R s m args below meth c H locs cells slots Q (F0 m pc ls (va_rf r :: rest)) := by
  cases r with
  | none => exact lv_astore_nN hexec hb hdg hi h hn hl kk
  | some a => exact lv_astore_n hexec hb hdg hi h hn hl kk
theorem mx_astore (hexec : p.tables.exec = Jvm.exec) (hb : c.code = cc) {i nL : Nat} {r : Option Nat} {lv lv' : List (Nat × Value)} (hdg : decode cc pc = .ok (.astore i, 2)) (h : lv_has ls nL lv) (hn : i < nL) (hl : (i, va_rf r) :: lv.filter (fun q => !(q.1 == i) && !(q.1 + 1 == i && q.2.category == 2)) = lv')
    (kk : ∀ ls' : Array Slot, lv_has ls' nL lv' → W p l e R s m args below meth c H locs cells slots Q (F0 m (pc + 2) ls' rest)) : W p l e R s m args below meth c H locs cells slots Q (F0 m pc ls (va_rf r :: rest)) := by
  cases r with
  | none => exact lv_astoreN hexec hb hdg h hn hl kk
  | some a => exact lv_astore hexec hb hdg h hn hl kk
theorem mx_null (hexec : p.tables.exec = Jvm.exec) (hb : c.code = cc) (hdg : decode cc pc = .ok (.aconst_null, 1)) (k : W p l e R s m args below meth c H locs cells slots Q (F0 m (pc + 1) ls (va_rf none :: rest))) : W p l e R s m args below meth c H locs cells slots Q (F0 m pc ls rest) := lv_null hexec hb hdg k
theorem mx_ifnull (hexec : p.tables.exec = Jvm.exec) (hb : c.code = cc) {r : Option Nat} {off : Int} {tgt : Nat} (hdg : decode cc pc = .ok (.ifnull off, 3)) (ht : (pc : Int) + off = (tgt : Int))
    (kt : r = none → W p l e R s m args below meth c H locs cells slots Q (F0 m tgt ls rest)) (kf : ¬ r = none → W p l e R s m args below meth c H locs cells slots Q (F0 m (pc + 3) ls rest)) : W p l e R s m args below meth c H locs cells slots Q (F0 m pc ls (va_rf r :: rest)) := by
  cases r with
  | none => exact lv_ifnullN hexec hb hdg ht (kt rfl)
  | some a => exact lv_ifnull hexec hb hdg (kf (fun h => by cases h))
theorem mx_ifnonnull (hexec : p.tables.exec = Jvm.exec) (hb : c.code = cc) {r : Option Nat} {off : Int} {tgt : Nat} (hdg : decode cc pc = .ok (.ifnonnull off, 3)) (ht : (pc : Int) + off = (tgt : Int))
    (kt : ¬ r = none → W p l e R s m args below meth c H locs cells slots Q (F0 m tgt ls rest)) (kf : r = none → W p l e R s m args below meth c H locs cells slots Q (F0 m (pc + 3) ls rest)) : W p l e R s m args below meth c H locs cells slots Q (F0 m pc ls (va_rf r :: rest)) := by
  cases r with
  | none => exact lv_ifnonnullN hexec hb hdg (kf rfl)
  | some a => exact lv_ifnonnull hexec hb hdg ht (kt (fun h => by cases h))
theorem mx_cmp_lt (x y : Int64) : lg_cmp x y < 0 ↔ x < y := by
  unfold lg_cmp
  by_cases h1 : x > y
  · rw [if_pos h1]
    have h2 := Int64.lt_iff_toInt_lt.mp h1
    constructor
    · intro h; exact absurd h (by decide)
    · intro h; have h3 := Int64.lt_iff_toInt_lt.mp h; omega
  · rw [if_neg h1]
    by_cases h2 : x = y
    · rw [if_pos h2]
      subst h2
      constructor
      · intro h; exact absurd h (by decide)
      · intro h; exact absurd h (Int64.lt_irrefl)
    · rw [if_neg h2]
      have h3 : ¬ x.toInt > y.toInt := fun h => h1 (Int64.lt_iff_toInt_lt.mpr h)
      have h4 : x.toInt ≠ y.toInt := fun h => h2 (Int64.toInt_inj.mp h)
      constructor
      · intro _; exact Int64.lt_iff_toInt_lt.mpr (by omega)
      · intro _; decide
theorem mx_cmp_gt (x y : Int64) : 0 < lg_cmp x y ↔ y < x := by
  unfold lg_cmp
  by_cases h1 : x > y
  · rw [if_pos h1]
    exact ⟨fun _ => h1, fun _ => by decide⟩
  · rw [if_neg h1]
    by_cases h2 : x = y
    · rw [if_pos h2]
      exact ⟨fun h => absurd h (by decide), fun h => absurd h h1⟩
    · rw [if_neg h2]
      exact ⟨fun h => absurd h (by decide), fun h => absurd h h1⟩
theorem mx_cmp_eq (x y : Int64) : lg_cmp x y = 0 ↔ x = y := by
  unfold lg_cmp
  by_cases h1 : x > y
  · rw [if_pos h1]
    constructor
    · intro h; exact absurd h (by decide)
    · intro h; subst h; exact absurd h1 Int64.lt_irrefl
  · rw [if_neg h1]
    by_cases h2 : x = y
    · rw [if_pos h2]; exact ⟨fun _ => h2, fun _ => rfl⟩
    · rw [if_neg h2]; exact ⟨fun h => absurd h (by decide), fun h => absurd h h2⟩
theorem mx_l_not {x y : Int64} : ¬ x < y ↔ y ≤ x := by
  rw [Int64.lt_iff_toInt_lt, Int64.le_iff_toInt_le]; omega
theorem mx_i_not {x y : Int32} : ¬ x < y ↔ y ≤ x := by
  rw [Int32.lt_iff_toInt_lt, Int32.le_iff_toInt_le]; omega
theorem mx_lcmp_lt (hexec : p.tables.exec = Jvm.exec) (hb : c.code = cc) {x y : Int64} {off : Int} {tgt : Nat} (hd1 : decode cc pc = .ok (.lcmp, 1)) (hd2 : decode cc (pc + 1) = .ok (.ifCond .lt off, 3)) (ht : ((pc + 1 : Nat) : Int) + off = (tgt : Int))
    (kt : x < y → W p l e R s m args below meth c H locs cells slots Q (F0 m tgt ls rest)) (kf : ¬ x < y → W p l e R s m args below meth c H locs cells slots Q (F0 m (pc + 1 + 3) ls rest)) : W p l e R s m args below meth c H locs cells slots Q (F0 m pc ls (.long y :: .long x :: rest)) :=
  W.lcmp hexec hb hd1 (lv_if_lt hexec hb hd2 ht (fun h => kt ((mx_cmp_lt x y).mp h)) (fun h => kf (fun g => h ((mx_cmp_lt x y).mpr g))))
theorem mx_lcmp_gt (hexec : p.tables.exec = Jvm.exec) (hb : c.code = cc) {x y : Int64} {off : Int} {tgt : Nat} (hd1 : decode cc pc = .ok (.lcmp, 1)) (hd2 : decode cc (pc + 1) = .ok (.ifCond .gt off, 3)) (ht : ((pc + 1 : Nat) : Int) + off = (tgt : Int))
    (kt : y < x → W p l e R s m args below meth c H locs cells slots Q (F0 m tgt ls rest)) (kf : ¬ y < x → W p l e R s m args below meth c H locs cells slots Q (F0 m (pc + 1 + 3) ls rest)) : W p l e R s m args below meth c H locs cells slots Q (F0 m pc ls (.long y :: .long x :: rest)) :=
  W.lcmp hexec hb hd1 (lv_if_gt hexec hb hd2 ht (fun h => kt ((mx_cmp_gt x y).mp h)) (fun h => kf (fun g => h ((mx_cmp_gt x y).mpr g))))
theorem mx_lcmp_ge (hexec : p.tables.exec = Jvm.exec) (hb : c.code = cc) {x y : Int64} {off : Int} {tgt : Nat} (hd1 : decode cc pc = .ok (.lcmp, 1)) (hd2 : decode cc (pc + 1) = .ok (.ifCond .ge off, 3)) (ht : ((pc + 1 : Nat) : Int) + off = (tgt : Int))
    (kt : y ≤ x → W p l e R s m args below meth c H locs cells slots Q (F0 m tgt ls rest)) (kf : ¬ y ≤ x → W p l e R s m args below meth c H locs cells slots Q (F0 m (pc + 1 + 3) ls rest)) : W p l e R s m args below meth c H locs cells slots Q (F0 m pc ls (.long y :: .long x :: rest)) :=
  W.lcmp hexec hb hd1 (lv_if_ge hexec hb hd2 ht (fun h => kt (mx_l_not.mp (fun g => mx_i_not.mpr h ((mx_cmp_lt x y).mpr g)))) (fun h => kf (fun g => h (mx_i_not.mp (fun g2 => mx_l_not.mpr g ((mx_cmp_lt x y).mp g2))))))
theorem mx_lcmp_le (hexec : p.tables.exec = Jvm.exec) (hb : c.code = cc) {x y : Int64} {off : Int} {tgt : Nat} (hd1 : decode cc pc = .ok (.lcmp, 1)) (hd2 : decode cc (pc + 1) = .ok (.ifCond .le off, 3)) (ht : ((pc + 1 : Nat) : Int) + off = (tgt : Int))
    (kt : x ≤ y → W p l e R s m args below meth c H locs cells slots Q (F0 m tgt ls rest)) (kf : ¬ x ≤ y → W p l e R s m args below meth c H locs cells slots Q (F0 m (pc + 1 + 3) ls rest)) : W p l e R s m args below meth c H locs cells slots Q (F0 m pc ls (.long y :: .long x :: rest)) :=
  W.lcmp hexec hb hd1 (lv_if_le hexec hb hd2 ht (fun h => kt (mx_l_not.mp (fun g => mx_i_not.mpr h ((mx_cmp_gt x y).mpr g)))) (fun h => kf (fun g => h (mx_i_not.mp (fun g2 => mx_l_not.mpr g ((mx_cmp_gt x y).mp g2))))))
theorem mx_lcmp_eq (hexec : p.tables.exec = Jvm.exec) (hb : c.code = cc) {x y : Int64} {off : Int} {tgt : Nat} (hd1 : decode cc pc = .ok (.lcmp, 1)) (hd2 : decode cc (pc + 1) = .ok (.ifCond .eq off, 3)) (ht : ((pc + 1 : Nat) : Int) + off = (tgt : Int))
    (kt : x = y → W p l e R s m args below meth c H locs cells slots Q (F0 m tgt ls rest)) (kf : ¬ x = y → W p l e R s m args below meth c H locs cells slots Q (F0 m (pc + 1 + 3) ls rest)) : W p l e R s m args below meth c H locs cells slots Q (F0 m pc ls (.long y :: .long x :: rest)) :=
  W.lcmp hexec hb hd1 (lv_if_eq hexec hb hd2 ht (fun h => kt ((mx_cmp_eq x y).mp h)) (fun h => kf (fun g => h ((mx_cmp_eq x y).mpr g))))
theorem mx_lcmp_ne (hexec : p.tables.exec = Jvm.exec) (hb : c.code = cc) {x y : Int64} {off : Int} {tgt : Nat} (hd1 : decode cc pc = .ok (.lcmp, 1)) (hd2 : decode cc (pc + 1) = .ok (.ifCond .ne off, 3)) (ht : ((pc + 1 : Nat) : Int) + off = (tgt : Int))
    (kt : ¬ x = y → W p l e R s m args below meth c H locs cells slots Q (F0 m tgt ls rest)) (kf : x = y → W p l e R s m args below meth c H locs cells slots Q (F0 m (pc + 1 + 3) ls rest)) : W p l e R s m args below meth c H locs cells slots Q (F0 m pc ls (.long y :: .long x :: rest)) :=
  W.lcmp hexec hb hd1 (lv_if_ne hexec hb hd2 ht (fun h => kt (fun g => h ((mx_cmp_eq x y).mpr g))) (fun h => kf ((mx_cmp_eq x y).mp h)))
/-! fields -/
theorem mx_get (hexec : p.tables.exec = Jvm.exec) (hb : c.code = cc) {own C : String} {T : u_T} {N ci index : Nat} {Ts : List Cond} (hts : ∀ w ∈ Ts, w.before args s = true) (hin : ∀ w ∈ u_ws C T N, w ∈ Ts) (hown : s.vm.findClass own = some m.cls) (hK : va_K G.2.1 cl tys s) (hM : mx_M cl G mem H) {r : Option Nat} {a : Nat} {fs : List Value} (he : mx_O mem r ci = some (a, fs)) (hc : cl[ci]? = some (C, T, N)) (k : Nat) (hk : k < N) (hlink : (Cond.fieldLink own index (T k).1 (T k).2.1 (T k).2.2.1).before args s = true) {v : Value} (hv : fs[k]? = some v) (hdg : decode cc pc = .ok (.getfield index, 3))
    (kk : W p l e R s m args below meth c H locs cells slots Q (F0 m (pc + 3) ls (v :: rest))) : W p l e R s m args below meth c H locs cells slots Q (F0 m pc ls (va_rf r :: rest)) := by
  obtain ⟨rfl, h1⟩ := mx_O_spec he
  exact va_get (D := G.2.1) (ci := ci) hexec hb hts hin hown hK (hM.one h1) 0 rfl hc k hk hlink (fun _ h9 => h9) hv hdg kk
theorem mx_getN (hexec : p.tables.exec = Jvm.exec) (hb : c.code = cc) {own C host : String} {T : u_T} {N ci index : Nat} {Ts : List Cond} (hts : ∀ w ∈ Ts, w.before args s = true) (hin : ∀ w ∈ u_ws C T N, w ∈ Ts) (hown : s.vm.findClass own = some m.cls) (hK : va_K G.2.1 cl tys s) (hM : mx_M cl G mem H) {r : Option Nat} {a : Nat} {fs : List Value} (he : mx_O mem r ci = some (a, fs)) (hc : cl[ci]? = some (C, T, N)) (k : Nat) (hk : k < N) (hlink : (Cond.fieldLinkNest own index (T k).1 (T k).2.1 (T k).2.2.1 host).before args s = true) {v : Value} (hv : fs[k]? = some v) (hdg : decode cc pc = .ok (.getfield index, 3))
    (kk : W p l e R s m args below meth c H locs cells slots Q (F0 m (pc + 3) ls (v :: rest))) : W p l e R s m args below meth c H locs cells slots Q (F0 m pc ls (va_rf r :: rest)) := by
  obtain ⟨rfl, h1⟩ := mx_O_spec he
  exact va_getN (D := G.2.1) (ci := ci) hexec hb hts hin hown hK (hM.one h1) 0 rfl hc k hk hlink (fun _ h9 => h9) hv hdg kk
theorem mx_geti (hexec : p.tables.exec = Jvm.exec) (hb : c.code = cc) {own C : String} {T : u_T} {N ci index : Nat} {Ts : List Cond} (hts : ∀ w ∈ Ts, w.before args s = true) (hin : ∀ w ∈ u_ws C T N, w ∈ Ts) (hown : s.vm.findClass own = some m.cls) (hK : va_K G.2.1 cl tys s) (hM : mx_M cl G mem H) {k : Nat} {r : Option Nat} {x : Int32} (he : mx_gi mem r ci k = some x) (hc : cl[ci]? = some (C, T, N)) (k' : Nat) (hk : k < N) (hlink : (Cond.fieldLink own index (T k).1 (T k).2.1 (T k).2.2.1).before args s = true) (hdg : decode cc pc = .ok (.getfield index, 3))
    (kk : W p l e R s m args below meth c H locs cells slots Q (F0 m (pc + 3) ls (.int x :: rest))) : W p l e R s m args below meth c H locs cells slots Q (F0 m pc ls (va_rf r :: rest)) := by
  obtain ⟨a, fs, h1, h2⟩ := mx_gi_spec he
  exact mx_get hexec hb hts hin hown hK hM h1 hc k hk hlink h2 hdg kk
theorem mx_getl (hexec : p.tables.exec = Jvm.exec) (hb : c.code = cc) {own C : String} {T : u_T} {N ci index : Nat} {Ts : List Cond} (hts : ∀ w ∈ Ts, w.before args s = true) (hin : ∀ w ∈ u_ws C T N, w ∈ Ts) (hown : s.vm.findClass own = some m.cls) (hK : va_K G.2.1 cl tys s) (hM : mx_M cl G mem H) {k : Nat} {r : Option Nat} {x : Int64} (he : mx_gl mem r ci k = some x) (hc : cl[ci]? = some (C, T, N)) (k' : Nat) (hk : k < N) (hlink : (Cond.fieldLink own index (T k).1 (T k).2.1 (T k).2.2.1).before args s = true) (hdg : decode cc pc = .ok (.getfield index, 3))
    (kk : W p l e R s m args below meth c H locs cells slots Q (F0 m (pc + 3) ls (.long x :: rest))) : W p l e R s m args below meth c H locs cells slots Q (F0 m pc ls (va_rf r :: rest)) := by
  obtain ⟨a, fs, h1, h2⟩ := mx_gl_spec he
  exact mx_get hexec hb hts hin hown hK hM h1 hc k hk hlink h2 hdg kk
theorem mx_getr (hexec : p.tables.exec = Jvm.exec) (hb : c.code = cc) {own C : String} {T : u_T} {N ci index : Nat} {Ts : List Cond} (hts : ∀ w ∈ Ts, w.before args s = true) (hin : ∀ w ∈ u_ws C T N, w ∈ Ts) (hown : s.vm.findClass own = some m.cls) (hK : va_K G.2.1 cl tys s) (hM : mx_M cl G mem H) {k : Nat} {r x : Option Nat} (he : mx_gr mem r ci k = some x) (hc : cl[ci]? = some (C, T, N)) (k' : Nat) (hk : k < N) (hlink : (Cond.fieldLink own index (T k).1 (T k).2.1 (T k).2.2.1).before args s = true) (hdg : decode cc pc = .ok (.getfield index, 3))
    (kk : W p l e R s m args below meth c H locs cells slots Q (F0 m (pc + 3) ls (va_rf x :: rest))) : W p l e R s m args below meth c H locs cells slots Q (F0 m pc ls (va_rf r :: rest)) := by
  obtain ⟨a, fs, h1, h2⟩ := mx_gr_spec he
  exact mx_get hexec hb hts hin hown hK hM h1 hc k hk hlink h2 hdg kk
theorem mx_getiN (hexec : p.tables.exec = Jvm.exec) (hb : c.code = cc) {own C host : String} {T : u_T} {N ci index : Nat} {Ts : List Cond} (hts : ∀ w ∈ Ts, w.before args s = true) (hin : ∀ w ∈ u_ws C T N, w ∈ Ts) (hown : s.vm.findClass own = some m.cls) (hK : va_K G.2.1 cl tys s) (hM : mx_M cl G mem H) {k : Nat} {r : Option Nat} {x : Int32} (he : mx_gi mem r ci k = some x) (hc : cl[ci]? = some (C, T, N)) (k' : Nat) (hk : k < N) (hlink : (Cond.fieldLinkNest own index (T k).1 (T k).2.1 (T k).2.2.1 host).before args s = true) (hdg : decode cc pc = .ok (.getfield index, 3))
    (kk : W p l e R s m args below meth c H locs cells slots Q (F0 m (pc + 3) ls (.int x :: rest))) : W p l e R s m args below meth c H locs cells slots Q (F0 m pc ls (va_rf r :: rest)) := by
  obtain ⟨a, fs, h1, h2⟩ := mx_gi_spec he
  exact mx_getN hexec hb hts hin hown hK hM h1 hc k hk hlink h2 hdg kk
theorem mx_getlN (hexec : p.tables.exec = Jvm.exec) (hb : c.code = cc) {own C host : String} {T : u_T} {N ci index : Nat} {Ts : List Cond} (hts : ∀ w ∈ Ts, w.before args s = true) (hin : ∀ w ∈ u_ws C T N, w ∈ Ts) (hown : s.vm.findClass own = some m.cls) (hK : va_K G.2.1 cl tys s) (hM : mx_M cl G mem H) {k : Nat} {r : Option Nat} {x : Int64} (he : mx_gl mem r ci k = some x) (hc : cl[ci]? = some (C, T, N)) (k' : Nat) (hk : k < N) (hlink : (Cond.fieldLinkNest own index (T k).1 (T k).2.1 (T k).2.2.1 host).before args s = true) (hdg : decode cc pc = .ok (.getfield index, 3))
    (kk : W p l e R s m args below meth c H locs cells slots Q (F0 m (pc + 3) ls (.long x :: rest))) : W p l e R s m args below meth c H locs cells slots Q (F0 m pc ls (va_rf r :: rest)) := by
  obtain ⟨a, fs, h1, h2⟩ := mx_gl_spec he
  exact mx_getN hexec hb hts hin hown hK hM h1 hc k hk hlink h2 hdg kk
theorem mx_getrN (hexec : p.tables.exec = Jvm.exec) (hb : c.code = cc) {own C host : String} {T : u_T} {N ci index : Nat} {Ts : List Cond} (hts : ∀ w ∈ Ts, w.before args s = true) (hin : ∀ w ∈ u_ws C T N, w ∈ Ts) (hown : s.vm.findClass own = some m.cls) (hK : va_K G.2.1 cl tys s) (hM : mx_M cl G mem H) {k : Nat} {r x : Option Nat} (he : mx_gr mem r ci k = some x) (hc : cl[ci]? = some (C, T, N)) (k' : Nat) (hk : k < N) (hlink : (Cond.fieldLinkNest own index (T k).1 (T k).2.1 (T k).2.2.1 host).before args s = true) (hdg : decode cc pc = .ok (.getfield index, 3))
    (kk : W p l e R s m args below meth c H locs cells slots Q (F0 m (pc + 3) ls (va_rf x :: rest))) : W p l e R s m args below meth c H locs cells slots Q (F0 m pc ls (va_rf r :: rest)) := by
  obtain ⟨a, fs, h1, h2⟩ := mx_gr_spec he
  exact mx_getN hexec hb hts hin hown hK hM h1 hc k hk hlink h2 hdg kk
theorem mx_put (hexec : p.tables.exec = Jvm.exec) (hb : c.code = cc) {own C : String} {T : u_T} {N ci index : Nat} {Ts : List Cond} (hts : ∀ w ∈ Ts, w.before args s = true) (hin : ∀ w ∈ u_ws C T N, w ∈ Ts) (ty0 : Nat → FieldType) (hty : ∀ k, k < N → parseFieldDescriptor (T k).2.2.1 = some (ty0 k)) (hnm : ∀ a, a < N → ∀ b, b < N → a ≠ b → (T a).2.1 ≠ (T b).2.1) (hown : s.vm.findClass own = some m.cls) (hK : va_K G.2.1 cl tys s) (hM : mx_M cl G mem H) (hS0 : va_S (mx_A G) H0 H locs) {k : Nat} {r : Option Nat} {v : Value} (he : mx_p mem r ci k v = some mem') (hc : cl[ci]? = some (C, T, N)) (k' : Nat) (hk : k < N) (hlink : (Cond.fieldLink own index (T k).1 (T k).2.1 (T k).2.2.1).before args s = true) (hfin : (T k).2.2.2 = false) {ty : FieldType} (hd : parseFieldDescriptor (T k).2.2.1 = some ty) (hn : narrow ty v = v) (hfit : fits ty v = true)
    (hdg : decode cc pc = .ok (.putfield index, 3)) (kk : ∀ (H1 : Heap) (locs1 : List Loc), mx_M cl G mem' H1 → va_S (mx_A G) H0 H1 locs1 → W p l e R s m args below meth c H1 locs1 cells slots Q (F0 m (pc + 3) ls rest)) : W p l e R s m args below meth c H locs cells slots Q (F0 m pc ls (v :: va_rf r :: rest)) := by
  obtain ⟨a, fs, h1, hl, rfl⟩ := mx_p_spec he
  obtain ⟨rfl, h2⟩ := mx_O_spec h1
  have hap := va_apart (own := own) hts hin ty0 hty hnm hK hc
  obtain ⟨r', h3, cell, q1, q2, q3, q4⟩ := (hM.2 a _ h2).2
  have hr : r' = (C, T, N) := Option.some.inj (h3.symm.trans hc)
  subst hr
  obtain ⟨hS, hfc, kC, hkC, hkind⟩ := hK.1 ci _ hc
  obtain ⟨cf, kf, fi, f, hi, hsl⟩ := hS k hk
  have hlay := hts _ (hin _ (u_in_lay hk))
  unfold u_lay at hlay
  rw [if_neg (by rw [hfin]; decide)] at hlay
  have hst := (u_facts hfc hkC (u_lays hts hin hk) hi).1
  have h6 := u_store hfc hkC hkind hlay hi hd hn hfit
  refine W.putK hexec hb (f := f) ⟨hown, hlink, ⟨_, _, _, hi⟩, hst⟩ (by rw [q2]; exact h6) q1 q3 (by rw [hsl]; exact k2_hasslot (q4 k hk)) rfl rfl hdg fun H' e1 e2 e3 => ?_
  rw [hsl] at e1 ⊢
  exact kk H' _ (hM.put h2 e2 e3 ⟨_, hc, t_OB.to (V := updV (vp_V fs) k v) ⟨_, e1, q2, q3, t_set q4 hap hk v⟩ (fun j _ => vp_updV_set hl v j)⟩) (hS0.put e2 e3 (hM.2 a _ h2).1)
theorem mx_putN (hexec : p.tables.exec = Jvm.exec) (hb : c.code = cc) {own C host : String} {T : u_T} {N ci index : Nat} {Ts : List Cond} (hts : ∀ w ∈ Ts, w.before args s = true) (hin : ∀ w ∈ u_ws C T N, w ∈ Ts) (ty0 : Nat → FieldType) (hty : ∀ k, k < N → parseFieldDescriptor (T k).2.2.1 = some (ty0 k)) (hnm : ∀ a, a < N → ∀ b, b < N → a ≠ b → (T a).2.1 ≠ (T b).2.1) (hown : s.vm.findClass own = some m.cls) (hK : va_K G.2.1 cl tys s) (hM : mx_M cl G mem H) (hS0 : va_S (mx_A G) H0 H locs) {k : Nat} {r : Option Nat} {v : Value} (he : mx_p mem r ci k v = some mem') (hc : cl[ci]? = some (C, T, N)) (k' : Nat) (hk : k < N) (hlink : (Cond.fieldLinkNest own index (T k).1 (T k).2.1 (T k).2.2.1 host).before args s = true) (hfin : (T k).2.2.2 = false) {ty : FieldType} (hd : parseFieldDescriptor (T k).2.2.1 = some ty) (hn : narrow ty v = v) (hfit : fits ty v = true)
    (hdg : decode cc pc = .ok (.putfield index, 3)) (kk : ∀ (H1 : Heap) (locs1 : List Loc), mx_M cl G mem' H1 → va_S (mx_A G) H0 H1 locs1 → W p l e R s m args below meth c H1 locs1 cells slots Q (F0 m (pc + 3) ls rest)) : W p l e R s m args below meth c H locs cells slots Q (F0 m pc ls (v :: va_rf r :: rest)) := by
  obtain ⟨a, fs, h1, hl, rfl⟩ := mx_p_spec he
  obtain ⟨rfl, h2⟩ := mx_O_spec h1
  have hap := va_apart (own := own) hts hin ty0 hty hnm hK hc
  obtain ⟨r', h3, cell, q1, q2, q3, q4⟩ := (hM.2 a _ h2).2
  have hr : r' = (C, T, N) := Option.some.inj (h3.symm.trans hc)
  subst hr
  obtain ⟨hS, hfc, kC, hkC, hkind⟩ := hK.1 ci _ hc
  obtain ⟨cf, kf, fi, f, hi, hsl⟩ := hS k hk
  have hlay := hts _ (hin _ (u_in_lay hk))
  unfold u_lay at hlay
  rw [if_neg (by rw [hfin]; decide)] at hlay
  have hst := (u_facts hfc hkC (u_lays hts hin hk) hi).1
  have h6 := u_store hfc hkC hkind hlay hi hd hn hfit
  refine va_WputK hexec hb (f := f) hown hlink hi hst (by rw [q2]; exact h6) q1 q3 (by rw [hsl]; exact k2_hasslot (q4 k hk)) rfl rfl hdg fun H' e1 e2 e3 => ?_
  rw [hsl] at e1 ⊢
  exact kk H' _ (hM.put h2 e2 e3 ⟨_, hc, t_OB.to (V := updV (vp_V fs) k v) ⟨_, e1, q2, q3, t_set q4 hap hk v⟩ (fun j _ => vp_updV_set hl v j)⟩) (hS0.put e2 e3 (hM.2 a _ h2).1)
theorem mx_putF (hexec : p.tables.exec = Jvm.exec) (hb : c.code = cc) {own C : String} {T : u_T} {N ci index : Nat} {Ts : List Cond} (hts : ∀ w ∈ Ts, w.before args s = true) (hin : ∀ w ∈ u_ws C T N, w ∈ Ts) (ty0 : Nat → FieldType) (hty : ∀ k, k < N → parseFieldDescriptor (T k).2.2.1 = some (ty0 k)) (hnm : ∀ a, a < N → ∀ b, b < N → a ≠ b → (T a).2.1 ≠ (T b).2.1) (hown : s.vm.findClass own = some m.cls) (hK : va_K G.2.1 cl tys s) (hM : mx_M cl G mem H) (hS0 : va_S (mx_A G) H0 H locs) {k : Nat} {r : Option Nat} {v : Value} (he : mx_p mem r ci k v = some mem') (hc : cl[ci]? = some (C, T, N)) (k' : Nat) (hk : k < N) (hlink : (Cond.fieldLink own index (T k).1 (T k).2.1 (T k).2.2.1).before args s = true) (hfin : (T k).2.2.2 = true) (hin2 : meth.name = "<init>") (hdecl : (T k).1 = own) {ty : FieldType} (hd : parseFieldDescriptor (T k).2.2.1 = some ty) (hn : narrow ty v = v) (hfit : fits ty v = true)
    (hdg : decode cc pc = .ok (.putfield index, 3)) (kk : ∀ (H1 : Heap) (locs1 : List Loc), mx_M cl G mem' H1 → va_S (mx_A G) H0 H1 locs1 → W p l e R s m args below meth c H1 locs1 cells slots Q (F0 m (pc + 3) ls rest)) : W p l e R s m args below meth c H locs cells slots Q (F0 m pc ls (v :: va_rf r :: rest)) := by
  obtain ⟨a, fs, h1, hl, rfl⟩ := mx_p_spec he
  obtain ⟨rfl, h2⟩ := mx_O_spec h1
  have hap := va_apart (own := own) hts hin ty0 hty hnm hK hc
  obtain ⟨r', h3, cell, q1, q2, q3, q4⟩ := (hM.2 a _ h2).2
  have hr : r' = (C, T, N) := Option.some.inj (h3.symm.trans hc)
  subst hr
  obtain ⟨hS, hfc, kC, hkC, hkind⟩ := hK.1 ci _ hc
  obtain ⟨cf, kf, fi, f, hi, hsl⟩ := hS k hk
  have hlay := hts _ (hin _ (u_in_lay hk))
  unfold u_lay at hlay
  rw [if_pos hfin] at hlay
  have hst := (u_facts hfc hkC (u_lays hts hin hk) hi).1
  have hcf : m.cls = cf := by
    obtain ⟨_, _, c', _, _, _, -, -, hf', -, -, -, hown2, -⟩ := Cond.laysFinal_spec hlay
    have e1 : c' = cf := by have := hi.symm.trans hf'; simp at this; exact this.1.symm
    rw [hdecl] at hown2
    rw [← e1]; exact Option.some.inj (hown.symm.trans hown2)
  have h6 := u_fits hfc hkC hkind (Or.inr hlay) hi hd hn hfit
  refine W.putFinK hexec hb hown hlink hi hst hcf hin2 (by rw [q2]; exact h6) q1 q3 (by rw [hsl]; exact k2_hasslot (q4 k hk)) rfl rfl hdg fun H' e1 e2 e3 => ?_
  rw [hsl] at e1 ⊢
  exact kk H' _ (hM.put h2 e2 e3 ⟨_, hc, t_OB.to (V := updV (vp_V fs) k v) ⟨_, e1, q2, q3, t_set q4 hap hk v⟩ (fun j _ => vp_updV_set hl v j)⟩) (hS0.put e2 e3 (hM.2 a _ h2).1)
theorem mx_S.push {A : Nat → Prop} {H1 : Heap} (hS : va_S A H0 H locs) (z : H1.size = H.size + 1) (oq : ∀ q : Nat, q < H.size → H1[q]? = H[q]?) : va_S A H0 H1 locs :=
  ⟨Nat.le_trans hS.1 (by omega), fun x h1 h2 => (oq x (Nat.lt_of_lt_of_le h1 hS.1)).trans (hS.2.1 x h1 h2), hS.2.2⟩
theorem mx_new (hexec : p.tables.exec = Jvm.exec) (hb : c.code = cc) {own C : String} {T : u_T} {N ci index : Nat} {Ts : List Cond} (hts : ∀ w ∈ Ts, w.before args s = true) (hin : ∀ w ∈ u_ws C T N, w ∈ Ts) (ty : Nat → FieldType) (hty : ∀ k, k < N → parseFieldDescriptor (T k).2.2.1 = some (ty k)) (hown : s.vm.findClass own = some m.cls) (hcl : (Cond.classLink own index C).before args s = true) (hinst : (Cond.instantiable C N).before args s = true) (hini : (Cond.initialized C).before args s = true)
    (hK : va_K G.2.1 cl tys s) (hM : mx_M cl G mem H) (hS : va_S (mx_A G) H0 H locs) (hb0 : G.1 ≤ H0.size) (hc : cl[ci]? = some (C, T, N)) {fs : List Value} (hfs : ∀ j, j < N → defaultValue (ty j) = vp_V fs j) (he : some (mx_n mem (.inr (ci, fs))) = some mem') (hdg : decode cc pc = .ok (.new index, 3)) (hcells : cells + 1 ≤ R.cells) (hslots : slots + N ≤ R.slots)
    (kk : ∀ H1 : Heap, mx_M cl G mem' H1 → va_S (mx_A G) H0 H1 locs → W p l e R s m args below meth c H1 locs (cells + 1) (slots + N) Q (F0 m (pc + 3) ls (va_rf (some mem.1) :: rest))) : W p l e R s m args below meth c H locs cells slots Q (F0 m pc ls rest) := by
  cases he
  have hKn := hK.1 ci _ hc
  refine W.newcK hexec hb hown hcl hinst hini rfl hdg hcells hslots hKn.2.1 hM.1 fun H1 kC hkC e1 z1 o1 => ?_
  rw [← hM.1] at e1 z1 o1
  exact kk H1 (hM.push (Nat.le_trans hb0 hS.1) z1 o1 ⟨_, hc, (u_born ty hts hin hKn hkC e1 hty).to hfs⟩) (mx_S.push hS z1 o1)
theorem mx_newq (hexec : p.tables.exec = Jvm.exec) (hb : c.code = cc) {own C : String} {index kd : Nat} (hown : s.vm.findClass own = some m.cls) (hclink : (Cond.classLink own index C).before args s = true) (hover : (Cond.arrayOver (.object C)).before args s = true) (hK : va_K G.2.1 cl tys s) (hM : mx_M cl G mem H) (hS : va_S (mx_A G) H0 H locs) (hb0 : G.1 ≤ H0.size) (ht : tys[kd]? = some (G.2.2 kd, .object C))
    {n : Int32} {N' : Nat} (hn : ¬ n < 0) (hN : n.toNatClampNeg = N') (hbytes : N' * 4 ≤ 536870912) (he : some (mx_n mem (.inl (kd, N', .inr (.inr (.inr (.inr (fun _ => none))))))) = some mem') (hdg : decode cc pc = .ok (.anewarray index, 3)) (hcells : cells + 1 ≤ R.cells) (hslots : slots + N' ≤ R.slots)
    (kk : ∀ H1 : Heap, mx_M cl G mem' H1 → va_S (mx_A G) H0 H1 locs → W p l e R s m args below meth c H1 locs (cells + 1) (slots + N') Q (F0 m (pc + 3) ls (va_rf (some mem.1) :: rest))) : W p l e R s m args below meth c H locs cells slots Q (F0 m pc ls (.int n :: rest)) := by
  cases he
  subst hN
  refine W.anew hexec hb hown hclink hover rfl hdg rfl hn hbytes hcells hslots fun cA kA comp f1 f2 f3 f4 => ?_
  generalize hH1 : H.push ({ cls := cA, slots := Array.replicate n.toNatClampNeg .null, vm := .none } : Cell) = H1
  have z1 : H1.size = H.size + 1 := by rw [← hH1, Array.size_push]
  have e1 : H1[H.size]? = some (arrV cA n.toNatClampNeg (fun _ => .null)) := by rw [← hH1, Array.getElem?_push_size, ← arrV_new]
  have o1 : ∀ q : Nat, q < H.size → H1[q]? = H[q]? := fun q hq => by rw [← hH1, Array.getElem?_push, if_neg (Nat.ne_of_lt hq)]
  obtain ⟨kA', comp', g1, g2, g3, g4⟩ := (hK.2 kd _ ht).2
  have hcA : cA = G.2.2 kd := Option.some.inj (f1.symm.trans g4)
  subst hcA
  have h9 := kk H1 (hM.push (Nat.le_trans hb0 hS.1) z1 o1 (by show H1[H.size]? = some (vp_cell _ _); rw [vp_cell_q]; exact e1)) (mx_S.push hS z1 o1)
  rw [← hM.1] at h9
  exact h9
theorem mx_alen (hexec : p.tables.exec = Jvm.exec) (hb : c.code = cc) (hK : va_K G.2.1 cl tys s) (hM : mx_M cl G mem H) {kd : Nat} {r : Option Nat} {v : Int32} (he : mx_al mem r kd = some v) {ty : FieldType} (ht : tys[kd]? = some (G.2.2 kd, ty)) (hdg : decode cc pc = .ok (.arraylength, 1))
    (kk : W p l e R s m args below meth c H locs cells slots Q (F0 m (pc + 1) ls (.int v :: rest))) : W p l e R s m args below meth c H locs cells slots Q (F0 m pc ls (va_rf r :: rest)) := by
  obtain ⟨a, x, h1, h2⟩ := mx_al_spec he
  obtain ⟨rfl, h3⟩ := mx_R_spec h1
  exact va_alen (D := G.2.1) hexec hb hK (hM.one h3) 0 kd rfl ht h2 hdg kk
theorem mx_aald (hexec : p.tables.exec = Jvm.exec) (hb : c.code = cc) (hK : va_K G.2.1 cl tys s) (hM : mx_M cl G mem H) {kd : Nat} {r x : Option Nat} {i : Int32} (he : mx_ag mem r kd i = some x) {C : String} (ht : tys[kd]? = some (G.2.2 kd, .object C)) (hdg : decode cc pc = .ok (.aaload, 1))
    (kk : W p l e R s m args below meth c H locs cells slots Q (F0 m (pc + 1) ls (va_rf x :: rest))) : W p l e R s m args below meth c H locs cells slots Q (F0 m pc ls (.int i :: va_rf r :: rest)) := by
  obtain ⟨a, n, f, h1, h2, rfl⟩ := mx_ag_spec he
  obtain ⟨rfl, h3⟩ := mx_R_spec h1
  exact va_aldq (D := G.2.1) hexec hb hK (hM.one h3) 0 kd rfl ht h2 hdg kk
theorem mx_aast (hexec : p.tables.exec = Jvm.exec) (hb : c.code = cc) (hK : va_K G.2.1 cl tys s) (hM : mx_M cl G mem H) (hS : va_S (mx_A G) H0 H locs) {kd ci : Nat} {r v : Option Nat} {i : Int32} {u : Unit} (hu : mx_cn mem v ci = some u) (he : mx_as mem r kd i v = some mem') {q : vw_C} (ht : tys[kd]? = some (G.2.2 kd, .object q.1)) (hc : cl[ci]? = some q) (hdg : decode cc pc = .ok (.aastore, 1))
    (kk : ∀ (H1 : Heap) (locs1 : List Loc), mx_M cl G mem' H1 → va_S (mx_A G) H0 H1 locs1 → W p l e R s m args below meth c H1 locs1 cells slots Q (F0 m (pc + 1) ls rest)) : W p l e R s m args below meth c H locs cells slots Q (F0 m pc ls (va_rf v :: .int i :: va_rf r :: rest)) := by
  obtain ⟨a, n, f, h1, hin, rfl⟩ := mx_as_spec he
  obtain ⟨rfl, h3⟩ := mx_R_spec h1
  have hlt : i.toNatClampNeg < n := Nat.not_le.mp fun q => hin (Or.inr q)
  have h0 : ¬ i < 0 := fun q => hin (Or.inl q)
  have hA : H[a]? = some (vp_cell (G.2.2 kd) (n, .inr (.inr (.inr (.inr f))))) := (hM.2 a _ h3).2
  obtain ⟨kA, comp, k1, k2, k3, k4⟩ := (hK.2 kd _ ht).2
  have fin : ∀ (H1 : Heap), H1[a]? = some ((vp_cell (G.2.2 kd) (n, .inr (.inr (.inr (.inr f))))).setSlot i.toNatClampNeg (va_rf v)) → H1.size = H.size → (∀ q : Nat, q ≠ a → H1[q]? = H[q]?) → W p l e R s m args below meth c H1 (locs ++ [⟨a, i.toNatClampNeg⟩]) cells slots Q (F0 m (pc + 1) ls rest) := by
    intro H1 e1 z oq
    refine kk H1 _ (hM.put h3 z oq ?_) (hS.put z oq (hM.2 a _ h3).1)
    show H1[a]? = some (vp_cell _ _)
    rw [e1]
    rw [vp_cell_q, vp_cell_q, arrV_store]
    congr 2
    funext j
    by_cases hj : j = i.toNatClampNeg
    · subst hj
      simp [updV, va_up]
    · simp [updV, va_up, hj]
  cases v with
  | none =>
    exact va_WaastN (C := q.1) hexec hb hA ((hK.2 kd _ ht).1 n (fun j => va_rf (f j))) (fun h => by cases h) (by show ¬ (i < 0 ∨ (arrV _ _ _).slots.size ≤ _); rw [arrV_size]; exact hin) rfl rfl hdg fin
  | some b =>
    have hb1 : ∃ vs : List Value, mem.2 b = some (.inr (ci, vs)) := by
      unfold mx_cn at hu
      dsimp only at hu
      split at hu
      · rename_i w hw
        exact ⟨w.2, (mx_O_spec (a := b) (fs := w.2) (by obtain ⟨w1, w2⟩ := w; have := (mx_O_spec hw).1; cases this; exact hw)).2⟩
      · cases hu
    obtain ⟨vs, hb1⟩ := hb1
    obtain ⟨r', hr', cellV, g1, g2, g3, -⟩ := (hM.2 b _ hb1).2
    have hcls := (hK.1 ci q hc).2
    have hcomp : comp = G.2.1.1 ci := Option.some.inj (k3.symm.trans hcls.1)
    subst hcomp
    obtain ⟨kC, hkC, -⟩ := id hcls.2
    exact W.aast hexec hb hA (fun q h => by cases h) (fun h => by cases h) k1 k2 rfl hkC ⟨h0, by show _ < (arrV _ _ _).slots.size; rw [arrV_size]; exact hlt⟩ g1 (fun q h => by rw [g3] at h; cases h) (by rw [g2]; exact hkC) (by rw [g2]; exact va_assign hcls) rfl rfl hdg fin
end MXS
end
