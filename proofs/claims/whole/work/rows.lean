section
-- ===== PART A: goes FIRST, ahead of the names: the tables' words, and 'selects' of the private methods out of them =====
/-- a private method of a class that the tables say can be made, by its rows of tables_1 -/
def lw_okq (q : MethodName × Nat) : Prop := (q.1.cls ≠ "java/lang/invoke/MethodHandle" ∧ q.1.cls ≠ "java/lang/invoke/VarHandle") ∧ Cond.instantiable q.1.cls q.2 ∈ tables_1 ∧ Cond.privateMethod q.1 ∈ tables_1 ∧ Cond.instanceMethod q.1 ∈ tables_1
theorem lw_p0 : lw_okq (⟨"LateRoutes", "settle", "()V"⟩, 5) := ⟨⟨by decide +kernel, by decide +kernel⟩, List.mem_of_getElem? (i := 8) (by decide +kernel), List.mem_of_getElem? (i := 87) (by decide +kernel), List.mem_of_getElem? (i := 88) (by decide +kernel)⟩
theorem lw_p1 : lw_okq (⟨"LateRoutes$Load", "pickedOption", "()LLateRoutes$Option;"⟩, 12) := ⟨⟨by decide +kernel, by decide +kernel⟩, List.mem_of_getElem? (i := 105) (by decide +kernel), List.mem_of_getElem? (i := 103) (by decide +kernel), List.mem_of_getElem? (i := 104) (by decide +kernel)⟩
theorem lw_p2 : lw_okq (⟨"LateRoutes$Load", "catches", "(LLateRoutes$Line;)Z"⟩, 12) := ⟨⟨by decide +kernel, by decide +kernel⟩, List.mem_of_getElem? (i := 105) (by decide +kernel), List.mem_of_getElem? (i := 125) (by decide +kernel), List.mem_of_getElem? (i := 126) (by decide +kernel)⟩
theorem lw_p3 : lw_okq (⟨"LateRoutes", "findLine", "(I)LLateRoutes$Line;"⟩, 5) := ⟨⟨by decide +kernel, by decide +kernel⟩, List.mem_of_getElem? (i := 8) (by decide +kernel), List.mem_of_getElem? (i := 134) (by decide +kernel), List.mem_of_getElem? (i := 135) (by decide +kernel)⟩
theorem lw_p4 : lw_okq (⟨"LateRoutes", "fileByLeaving", "(LLateRoutes$Load;)V"⟩, 5) := ⟨⟨by decide +kernel, by decide +kernel⟩, List.mem_of_getElem? (i := 8) (by decide +kernel), List.mem_of_getElem? (i := 187) (by decide +kernel), List.mem_of_getElem? (i := 188) (by decide +kernel)⟩
theorem lw_p5 : lw_okq (⟨"LateRoutes", "findLoad", "(I)LLateRoutes$Load;"⟩, 5) := ⟨⟨by decide +kernel, by decide +kernel⟩, List.mem_of_getElem? (i := 8) (by decide +kernel), List.mem_of_getElem? (i := 195) (by decide +kernel), List.mem_of_getElem? (i := 196) (by decide +kernel)⟩
theorem lw_p6 : lw_okq (⟨"LateRoutes", "countFailing", "()I"⟩, 5) := ⟨⟨by decide +kernel, by decide +kernel⟩, List.mem_of_getElem? (i := 8) (by decide +kernel), List.mem_of_getElem? (i := 243) (by decide +kernel), List.mem_of_getElem? (i := 244) (by decide +kernel)⟩
theorem lw_p7 : lw_okq (⟨"LateRoutes", "countMoved", "()I"⟩, 5) := ⟨⟨by decide +kernel, by decide +kernel⟩, List.mem_of_getElem? (i := 8) (by decide +kernel), List.mem_of_getElem? (i := 268) (by decide +kernel), List.mem_of_getElem? (i := 269) (by decide +kernel)⟩
theorem lw_p8 : lw_okq (⟨"LateRoutes", "sumHarm", "()J"⟩, 5) := ⟨⟨by decide +kernel, by decide +kernel⟩, List.mem_of_getElem? (i := 8) (by decide +kernel), List.mem_of_getElem? (i := 281) (by decide +kernel), List.mem_of_getElem? (i := 282) (by decide +kernel)⟩
theorem lw_p9 : lw_okq (⟨"LateRoutes", "countActs", "()I"⟩, 5) := ⟨⟨by decide +kernel, by decide +kernel⟩, List.mem_of_getElem? (i := 8) (by decide +kernel), List.mem_of_getElem? (i := 290) (by decide +kernel), List.mem_of_getElem? (i := 291) (by decide +kernel)⟩
theorem lw_p10 : lw_okq (⟨"LateRoutes", "keepChoice", "()V"⟩, 5) := ⟨⟨by decide +kernel, by decide +kernel⟩, List.mem_of_getElem? (i := 8) (by decide +kernel), List.mem_of_getElem? (i := 298) (by decide +kernel), List.mem_of_getElem? (i := 299) (by decide +kernel)⟩
theorem lw_p11 : lw_okq (⟨"LateRoutes", "pickNextChoice", "()Z"⟩, 5) := ⟨⟨by decide +kernel, by decide +kernel⟩, List.mem_of_getElem? (i := 8) (by decide +kernel), List.mem_of_getElem? (i := 306) (by decide +kernel), List.mem_of_getElem? (i := 307) (by decide +kernel)⟩
theorem lw_p12 : lw_okq (⟨"LateRoutes", "takeKeptChoice", "()V"⟩, 5) := ⟨⟨by decide +kernel, by decide +kernel⟩, List.mem_of_getElem? (i := 8) (by decide +kernel), List.mem_of_getElem? (i := 314) (by decide +kernel), List.mem_of_getElem? (i := 315) (by decide +kernel)⟩
theorem lw_p13 : lw_okq (⟨"LateRoutesModel", "isLine", "(I)Z"⟩, 23) := ⟨⟨by decide +kernel, by decide +kernel⟩, List.mem_of_getElem? (i := 343) (by decide +kernel), List.mem_of_getElem? (i := 435) (by decide +kernel), List.mem_of_getElem? (i := 436) (by decide +kernel)⟩
theorem lw_p14 : lw_okq (⟨"LateRoutesModel", "isLoad", "(I)Z"⟩, 23) := ⟨⟨by decide +kernel, by decide +kernel⟩, List.mem_of_getElem? (i := 343) (by decide +kernel), List.mem_of_getElem? (i := 445) (by decide +kernel), List.mem_of_getElem? (i := 446) (by decide +kernel)⟩
theorem lw_p15 : lw_okq (⟨"LateRoutesModel", "isDirect", "(I)Z"⟩, 23) := ⟨⟨by decide +kernel, by decide +kernel⟩, List.mem_of_getElem? (i := 343) (by decide +kernel), List.mem_of_getElem? (i := 450) (by decide +kernel), List.mem_of_getElem? (i := 451) (by decide +kernel)⟩
def lw_privs_1 : List (MethodName × Nat) := [(⟨"LateRoutes", "settle", "()V"⟩, 5), (⟨"LateRoutes$Load", "pickedOption", "()LLateRoutes$Option;"⟩, 12), (⟨"LateRoutes$Load", "catches", "(LLateRoutes$Line;)Z"⟩, 12), (⟨"LateRoutes", "findLine", "(I)LLateRoutes$Line;"⟩, 5), (⟨"LateRoutes", "fileByLeaving", "(LLateRoutes$Load;)V"⟩, 5), (⟨"LateRoutes", "findLoad", "(I)LLateRoutes$Load;"⟩, 5), (⟨"LateRoutes", "countFailing", "()I"⟩, 5), (⟨"LateRoutes", "countMoved", "()I"⟩, 5), (⟨"LateRoutes", "sumHarm", "()J"⟩, 5), (⟨"LateRoutes", "countActs", "()I"⟩, 5), (⟨"LateRoutes", "keepChoice", "()V"⟩, 5), (⟨"LateRoutes", "pickNextChoice", "()Z"⟩, 5), (⟨"LateRoutes", "takeKeptChoice", "()V"⟩, 5), (⟨"LateRoutesModel", "isLine", "(I)Z"⟩, 23), (⟨"LateRoutesModel", "isLoad", "(I)Z"⟩, 23), (⟨"LateRoutesModel", "isDirect", "(I)Z"⟩, 23)]
theorem lw_r1 : ∀ q ∈ lw_privs_1, lw_okq q := List.forall_mem_cons.mpr ⟨lw_p0, List.forall_mem_cons.mpr ⟨lw_p1, List.forall_mem_cons.mpr ⟨lw_p2, List.forall_mem_cons.mpr ⟨lw_p3, List.forall_mem_cons.mpr ⟨lw_p4, List.forall_mem_cons.mpr ⟨lw_p5, List.forall_mem_cons.mpr ⟨lw_p6, List.forall_mem_cons.mpr ⟨lw_p7, List.forall_mem_cons.mpr ⟨lw_p8, List.forall_mem_cons.mpr ⟨lw_p9, List.forall_mem_cons.mpr ⟨lw_p10, List.forall_mem_cons.mpr ⟨lw_p11, List.forall_mem_cons.mpr ⟨lw_p12, List.forall_mem_cons.mpr ⟨lw_p13, List.forall_mem_cons.mpr ⟨lw_p14, List.forall_mem_cons.mpr ⟨lw_p15, fun _ h => absurd h List.not_mem_nil⟩⟩⟩⟩⟩⟩⟩⟩⟩⟩⟩⟩⟩⟩⟩⟩
theorem lw_p16 : lw_okq (⟨"LateRoutesModel", "reckon", "()V"⟩, 23) := ⟨⟨by decide +kernel, by decide +kernel⟩, List.mem_of_getElem? (i := 343) (by decide +kernel), List.mem_of_getElem? (i := 464) (by decide +kernel), List.mem_of_getElem? (i := 465) (by decide +kernel)⟩
theorem lw_p17 : lw_okq (⟨"LateRoutesModel", "depart", "(I)V"⟩, 23) := ⟨⟨by decide +kernel, by decide +kernel⟩, List.mem_of_getElem? (i := 343) (by decide +kernel), List.mem_of_getElem? (i := 469) (by decide +kernel), List.mem_of_getElem? (i := 470) (by decide +kernel)⟩
theorem lw_p18 : lw_okq (⟨"LateRoutesModel", "there", "(I)J"⟩, 23) := ⟨⟨by decide +kernel, by decide +kernel⟩, List.mem_of_getElem? (i := 343) (by decide +kernel), List.mem_of_getElem? (i := 473) (by decide +kernel), List.mem_of_getElem? (i := 474) (by decide +kernel)⟩
theorem lw_p19 : lw_okq (⟨"LateRoutesModel", "arrive", "(I)V"⟩, 23) := ⟨⟨by decide +kernel, by decide +kernel⟩, List.mem_of_getElem? (i := 343) (by decide +kernel), List.mem_of_getElem? (i := 478) (by decide +kernel), List.mem_of_getElem? (i := 479) (by decide +kernel)⟩
theorem lw_p20 : lw_okq (⟨"LateRoutesModel", "harm", "()J"⟩, 23) := ⟨⟨by decide +kernel, by decide +kernel⟩, List.mem_of_getElem? (i := 343) (by decide +kernel), List.mem_of_getElem? (i := 492) (by decide +kernel), List.mem_of_getElem? (i := 493) (by decide +kernel)⟩
theorem lw_p21 : lw_okq (⟨"LateRoutesModel", "actsNow", "()I"⟩, 23) := ⟨⟨by decide +kernel, by decide +kernel⟩, List.mem_of_getElem? (i := 343) (by decide +kernel), List.mem_of_getElem? (i := 496) (by decide +kernel), List.mem_of_getElem? (i := 497) (by decide +kernel)⟩
theorem lw_p22 : lw_okq (⟨"LateRoutesModel", "next", "()Z"⟩, 23) := ⟨⟨by decide +kernel, by decide +kernel⟩, List.mem_of_getElem? (i := 343) (by decide +kernel), List.mem_of_getElem? (i := 500) (by decide +kernel), List.mem_of_getElem? (i := 501) (by decide +kernel)⟩
def lw_privs_2 : List (MethodName × Nat) := [(⟨"LateRoutesModel", "reckon", "()V"⟩, 23), (⟨"LateRoutesModel", "depart", "(I)V"⟩, 23), (⟨"LateRoutesModel", "there", "(I)J"⟩, 23), (⟨"LateRoutesModel", "arrive", "(I)V"⟩, 23), (⟨"LateRoutesModel", "harm", "()J"⟩, 23), (⟨"LateRoutesModel", "actsNow", "()I"⟩, 23), (⟨"LateRoutesModel", "next", "()Z"⟩, 23)]
theorem lw_r2 : ∀ q ∈ lw_privs_2, lw_okq q := List.forall_mem_cons.mpr ⟨lw_p16, List.forall_mem_cons.mpr ⟨lw_p17, List.forall_mem_cons.mpr ⟨lw_p18, List.forall_mem_cons.mpr ⟨lw_p19, List.forall_mem_cons.mpr ⟨lw_p20, List.forall_mem_cons.mpr ⟨lw_p21, List.forall_mem_cons.mpr ⟨lw_p22, fun _ h => absurd h List.not_mem_nil⟩⟩⟩⟩⟩⟩⟩
def lw_privs : List (MethodName × Nat) := lw_privs_1 ++ (lw_privs_2)
def lw_tbl : List Cond := k2_sels lw_privs ++ tables_1
theorem lw_privs_ok : ∀ q ∈ lw_privs, lw_okq q := by
  show ∀ q ∈ lw_privs_1 ++ (lw_privs_2), lw_okq q
  exact List.forall_mem_append.mpr ⟨lw_r1, lw_r2⟩
end
section
/-! NAMES: printed by wip/gen/run.py out of javap's listing and the tables' words -/
def R_LR : String := "LateRoutes"
def T_LR : u_T := fun k => match k with
  | 0 => ("LateRoutes", "lines", "[LLateRoutes$Line;", true)
  | 1 => ("LateRoutes", "lineCount", "I", false)
  | 2 => ("LateRoutes", "loads", "[LLateRoutes$Load;", true)
  | 3 => ("LateRoutes", "loadsByLeaving", "[LLateRoutes$Load;", true)
  | _ => ("LateRoutes", "loadCount", "I", false)
def t_LR : Nat → FieldType := fun k => match k with
  | 0 => (.array (.object "LateRoutes$Line"))
  | 1 => .int
  | 2 => (.array (.object "LateRoutes$Load"))
  | 3 => (.array (.object "LateRoutes$Load"))
  | _ => .int
theorem n_LR : ∀ a, a < 5 → ∀ b, b < 5 → a ≠ b → (T_LR a).2.1 ≠ (T_LR b).2.1 := by decide +kernel
theorem t_LR_ok : ∀ k, k < 5 → parseFieldDescriptor (T_LR k).2.2.1 = some (t_LR k) := by decide +kernel
def R_Li : String := "LateRoutes$Line"
def T_Li : u_T := fun k => match k with
  | 0 => ("LateRoutes$Line", "number", "I", true)
  | 1 => ("LateRoutes$Line", "from", "I", true)
  | 2 => ("LateRoutes$Line", "to", "I", true)
  | 3 => ("LateRoutes$Line", "leaves", "J", true)
  | 4 => ("LateRoutes$Line", "arrives", "J", true)
  | 5 => ("LateRoutes$Line", "delay", "J", false)
  | 6 => ("LateRoutes$Line", "most", "J", false)
  | _ => ("LateRoutes$Line", "departsAt", "J", false)
def t_Li : Nat → FieldType := fun k => match k with
  | 0 => .int
  | 1 => .int
  | 2 => .int
  | 3 => .long
  | 4 => .long
  | 5 => .long
  | 6 => .long
  | _ => .long
theorem n_Li : ∀ a, a < 8 → ∀ b, b < 8 → a ≠ b → (T_Li a).2.1 ≠ (T_Li b).2.1 := by decide +kernel
theorem t_Li_ok : ∀ k, k < 8 → parseFieldDescriptor (T_Li k).2.2.1 = some (t_Li k) := by decide +kernel
def R_Op : String := "LateRoutes$Option"
def T_Op : u_T := fun k => match k with
  | 0 => ("LateRoutes$Option", "kind", "I", true)
  | 1 => ("LateRoutes$Option", "onward", "LLateRoutes$Line;", true)
  | _ => ("LateRoutes$Option", "cost", "J", true)
def t_Op : Nat → FieldType := fun k => match k with
  | 0 => .int
  | 1 => (.object "LateRoutes$Line")
  | _ => .long
theorem n_Op : ∀ a, a < 3 → ∀ b, b < 3 → a ≠ b → (T_Op a).2.1 ≠ (T_Op b).2.1 := by decide +kernel
theorem t_Op_ok : ∀ k, k < 3 → parseFieldDescriptor (T_Op k).2.2.1 = some (t_Op k) := by decide +kernel
def R_Lo : String := "LateRoutes$Load"
def T_Lo : u_T := fun k => match k with
  | 0 => ("LateRoutes$Load", "first", "LLateRoutes$Line;", true)
  | 1 => ("LateRoutes$Load", "to", "I", true)
  | 2 => ("LateRoutes$Load", "due", "J", true)
  | 3 => ("LateRoutes$Load", "weight", "I", true)
  | 4 => ("LateRoutes$Load", "options", "[LLateRoutes$Option;", true)
  | 5 => ("LateRoutes$Load", "optionCount", "I", false)
  | 6 => ("LateRoutes$Load", "picked", "I", false)
  | 7 => ("LateRoutes$Load", "keptPick", "I", false)
  | 8 => ("LateRoutes$Load", "coming", "J", false)
  | 9 => ("LateRoutes$Load", "arrivesAt", "J", false)
  | 10 => ("LateRoutes$Load", "arrivedBefore", "J", false)
  | _ => ("LateRoutes$Load", "isLeft", "Z", false)
def t_Lo : Nat → FieldType := fun k => match k with
  | 0 => (.object "LateRoutes$Line")
  | 1 => .int
  | 2 => .long
  | 3 => .int
  | 4 => (.array (.object "LateRoutes$Option"))
  | 5 => .int
  | 6 => .int
  | 7 => .int
  | 8 => .long
  | 9 => .long
  | 10 => .long
  | _ => .boolean
theorem n_Lo : ∀ a, a < 12 → ∀ b, b < 12 → a ≠ b → (T_Lo a).2.1 ≠ (T_Lo b).2.1 := by decide +kernel
theorem t_Lo_ok : ∀ k, k < 12 → parseFieldDescriptor (T_Lo k).2.2.1 = some (t_Lo k) := by decide +kernel
def R_Mo : String := "LateRoutesModel"
def T_Mo : u_T := fun k => match k with
  | 0 => ("LateRoutesModel", "thrown", "I", false)
  | 1 => ("LateRoutesModel", "lines", "I", false)
  | 2 => ("LateRoutesModel", "froms", "[I", true)
  | 3 => ("LateRoutesModel", "tos", "[I", true)
  | 4 => ("LateRoutesModel", "leaves", "[J", true)
  | 5 => ("LateRoutesModel", "arrives", "[J", true)
  | 6 => ("LateRoutesModel", "delays", "[J", true)
  | 7 => ("LateRoutesModel", "mosts", "[J", true)
  | 8 => ("LateRoutesModel", "departed", "[J", true)
  | 9 => ("LateRoutesModel", "loads", "I", false)
  | 10 => ("LateRoutesModel", "firsts", "[I", true)
  | 11 => ("LateRoutesModel", "goals", "[I", true)
  | 12 => ("LateRoutesModel", "dues", "[J", true)
  | 13 => ("LateRoutesModel", "weights", "[I", true)
  | 14 => ("LateRoutesModel", "options", "[I", true)
  | 15 => ("LateRoutesModel", "chosen", "[I", true)
  | 16 => ("LateRoutesModel", "kinds", "[I", true)
  | 17 => ("LateRoutesModel", "by", "[I", true)
  | 18 => ("LateRoutesModel", "costs", "[J", true)
  | 19 => ("LateRoutesModel", "came", "[J", true)
  | 20 => ("LateRoutesModel", "left", "[Z", true)
  | 21 => ("LateRoutesModel", "best", "[I", true)
  | _ => ("LateRoutesModel", "before", "[J", true)
def t_Mo : Nat → FieldType := fun k => match k with
  | 0 => .int
  | 1 => .int
  | 2 => (.array .int)
  | 3 => (.array .int)
  | 4 => (.array .long)
  | 5 => (.array .long)
  | 6 => (.array .long)
  | 7 => (.array .long)
  | 8 => (.array .long)
  | 9 => .int
  | 10 => (.array .int)
  | 11 => (.array .int)
  | 12 => (.array .long)
  | 13 => (.array .int)
  | 14 => (.array .int)
  | 15 => (.array .int)
  | 16 => (.array .int)
  | 17 => (.array .int)
  | 18 => (.array .long)
  | 19 => (.array .long)
  | 20 => (.array .boolean)
  | 21 => (.array .int)
  | _ => (.array .long)
theorem n_Mo : ∀ a, a < 23 → ∀ b, b < 23 → a ≠ b → (T_Mo a).2.1 ≠ (T_Mo b).2.1 := by decide +kernel
theorem t_Mo_ok : ∀ k, k < 23 → parseFieldDescriptor (T_Mo k).2.2.1 = some (t_Mo k) := by decide +kernel
def R_La : String := "LateRoutesLaw"
abbrev vwCl : List vw_C := [(R_LR, T_LR, 5), (R_Li, T_Li, 8), (R_Op, T_Op, 3), (R_Lo, T_Lo, 12), (R_Mo, T_Mo, 23)]
abbrev b_LR_init : ByteArray := prog_1_method_1_code
def y_LR_init : MethodName := ⟨R_LR, "<init>", "()V"⟩
abbrev b_Mo_init : ByteArray := prog_6_method_1_code
def y_Mo_init : MethodName := ⟨R_Mo, "<init>", "()V"⟩
abbrev b_LR_isWithin : ByteArray := prog_1_method_15_code
def y_LR_isWithin : MethodName := ⟨R_LR, "isWithin", "(JJJ)Z"⟩
abbrev b_LR_isPlace : ByteArray := prog_1_method_14_code
def y_LR_isPlace : MethodName := ⟨R_LR, "isPlace", "(I)Z"⟩
abbrev b_Li_init : ByteArray := prog_2_method_1_code
def y_Li_init : MethodName := ⟨R_Li, "<init>", "(IIIJJ)V"⟩
abbrev b_Li_forgetWaiting : ByteArray := prog_2_method_2_code
def y_Li_forgetWaiting : MethodName := ⟨R_Li, "forgetWaiting", "()V"⟩
abbrev b_Li_arrivesAt : ByteArray := prog_2_method_4_code
def y_Li_arrivesAt : MethodName := ⟨R_Li, "arrivesAt", "()J"⟩
abbrev b_Lo_pickedOption : ByteArray := prog_3_method_10_code
def y_Lo_pickedOption : MethodName := ⟨R_Lo, "pickedOption", "()LLateRoutes$Option;"⟩
abbrev b_Li_holdUntil : ByteArray := prog_2_method_3_code
def y_Li_holdUntil : MethodName := ⟨R_Li, "holdUntil", "(J)V"⟩
abbrev b_Lo_comeAndHold : ByteArray := prog_3_method_12_code
def y_Lo_comeAndHold : MethodName := ⟨R_Lo, "comeAndHold", "()V"⟩
abbrev b_Lo_isDirect : ByteArray := prog_3_method_2_code
def y_Lo_isDirect : MethodName := ⟨R_Lo, "isDirect", "()Z"⟩
abbrev b_Lo_catches : ByteArray := prog_3_method_14_code
def y_Lo_catches : MethodName := ⟨R_Lo, "catches", "(LLateRoutes$Line;)Z"⟩
abbrev b_Lo_arrive : ByteArray := prog_3_method_13_code
def y_Lo_arrive : MethodName := ⟨R_Lo, "arrive", "()V"⟩
abbrev b_LR_settle : ByteArray := prog_1_method_19_code
def y_LR_settle : MethodName := ⟨R_LR, "settle", "()V"⟩
abbrev b_LR_line : ByteArray := prog_1_method_2_code
def y_LR_line : MethodName := ⟨R_LR, "line", "(IIJJ)I"⟩
abbrev b_Mo_in : ByteArray := prog_6_method_3_code
def y_Mo_in : MethodName := ⟨R_Mo, "in", "(JJJ)Z"⟩
abbrev b_Mo_line : ByteArray := prog_6_method_7_code
def y_Mo_line : MethodName := ⟨R_Mo, "line", "(IIJJ)I"⟩
abbrev b_LR_findLine : ByteArray := prog_1_method_16_code
def y_LR_findLine : MethodName := ⟨R_LR, "findLine", "(I)LLateRoutes$Line;"⟩
abbrev b_Lo_init : ByteArray := prog_3_method_1_code
def y_Lo_init : MethodName := ⟨R_Lo, "<init>", "(LLateRoutes$Line;IJI)V"⟩
abbrev b_LR_fileByLeaving : ByteArray := prog_1_method_18_code
def y_LR_fileByLeaving : MethodName := ⟨R_LR, "fileByLeaving", "(LLateRoutes$Load;)V"⟩
abbrev b_LR_load : ByteArray := prog_1_method_3_code
def y_LR_load : MethodName := ⟨R_LR, "load", "(IIJI)I"⟩
abbrev b_Mo_isLine : ByteArray := prog_6_method_4_code
def y_Mo_isLine : MethodName := ⟨R_Mo, "isLine", "(I)Z"⟩
abbrev b_Mo_load : ByteArray := prog_6_method_8_code
def y_Mo_load : MethodName := ⟨R_Mo, "load", "(IIJI)I"⟩
abbrev b_LR_findLoad : ByteArray := prog_1_method_17_code
def y_LR_findLoad : MethodName := ⟨R_LR, "findLoad", "(I)LLateRoutes$Load;"⟩
abbrev b_Lo_canGoOnBy : ByteArray := prog_3_method_3_code
def y_Lo_canGoOnBy : MethodName := ⟨R_Lo, "canGoOnBy", "(LLateRoutes$Line;)Z"⟩
abbrev b_Lo_hasRoom : ByteArray := prog_3_method_4_code
def y_Lo_hasRoom : MethodName := ⟨R_Lo, "hasRoom", "()Z"⟩
abbrev b_Op_init : ByteArray := prog_4_method_1_code
def y_Op_init : MethodName := ⟨R_Op, "<init>", "(ILLateRoutes$Line;J)V"⟩
abbrev b_Lo_addOption : ByteArray := prog_3_method_5_code
def y_Lo_addOption : MethodName := ⟨R_Lo, "addOption", "(LLateRoutes$Option;)I"⟩
abbrev b_LR_option : ByteArray := prog_1_method_4_code
def y_LR_option : MethodName := ⟨R_LR, "option", "(IIIJ)I"⟩
abbrev b_Mo_isLoad : ByteArray := prog_6_method_5_code
def y_Mo_isLoad : MethodName := ⟨R_Mo, "isLoad", "(I)Z"⟩
abbrev b_Mo_isDirect : ByteArray := prog_6_method_6_code
def y_Mo_isDirect : MethodName := ⟨R_Mo, "isDirect", "(I)Z"⟩
abbrev b_Mo_option : ByteArray := prog_6_method_9_code
def y_Mo_option : MethodName := ⟨R_Mo, "option", "(IIIJ)I"⟩
abbrev b_LR_waits : ByteArray := prog_1_method_5_code
def y_LR_waits : MethodName := ⟨R_LR, "waits", "(IJ)I"⟩
abbrev b_Mo_waits : ByteArray := prog_6_method_10_code
def y_Mo_waits : MethodName := ⟨R_Mo, "waits", "(IJ)I"⟩
abbrev b_Lo_minutesBehind : ByteArray := prog_3_method_17_code
def y_Lo_minutesBehind : MethodName := ⟨R_Lo, "minutesBehind", "()J"⟩
abbrev b_LR_countFailing : ByteArray := prog_1_method_20_code
def y_LR_countFailing : MethodName := ⟨R_LR, "countFailing", "()I"⟩
abbrev b_LR_late : ByteArray := prog_1_method_6_code
def y_LR_late : MethodName := ⟨R_LR, "late", "(IJ)I"⟩
abbrev b_Mo_there : ByteArray := prog_6_method_11_code
def y_Mo_there : MethodName := ⟨R_Mo, "there", "(I)J"⟩
abbrev b_Mo_depart : ByteArray := prog_6_method_12_code
def y_Mo_depart : MethodName := ⟨R_Mo, "depart", "(I)V"⟩
abbrev b_Mo_arrive : ByteArray := prog_6_method_13_code
def y_Mo_arrive : MethodName := ⟨R_Mo, "arrive", "(I)V"⟩
abbrev b_Mo_reckon : ByteArray := prog_6_method_14_code
def y_Mo_reckon : MethodName := ⟨R_Mo, "reckon", "()V"⟩
abbrev b_Mo_late : ByteArray := prog_6_method_17_code
def y_Mo_late : MethodName := ⟨R_Mo, "late", "(IJ)I"⟩
abbrev b_Lo_rememberArrival : ByteArray := prog_3_method_15_code
def y_Lo_rememberArrival : MethodName := ⟨R_Lo, "rememberArrival", "()V"⟩
abbrev b_Lo_concerns : ByteArray := prog_3_method_11_code
def y_Lo_concerns : MethodName := ⟨R_Lo, "concerns", "(LLateRoutes$Line;)Z"⟩
abbrev b_Lo_pickFirst : ByteArray := prog_3_method_6_code
def y_Lo_pickFirst : MethodName := ⟨R_Lo, "pickFirst", "()V"⟩
abbrev b_Lo_hasMoved : ByteArray := prog_3_method_16_code
def y_Lo_hasMoved : MethodName := ⟨R_Lo, "hasMoved", "()Z"⟩
abbrev b_LR_countMoved : ByteArray := prog_1_method_21_code
def y_LR_countMoved : MethodName := ⟨R_LR, "countMoved", "()I"⟩
abbrev b_LR_tell : ByteArray := prog_1_method_7_code
def y_LR_tell : MethodName := ⟨R_LR, "tell", "(IJ)I"⟩
abbrev b_Mo_tell : ByteArray := prog_6_method_18_code
def y_Mo_tell : MethodName := ⟨R_Mo, "tell", "(IJ)I"⟩
abbrev b_Lo_harm : ByteArray := prog_3_method_18_code
def y_Lo_harm : MethodName := ⟨R_Lo, "harm", "()J"⟩
abbrev b_LR_sumHarm : ByteArray := prog_1_method_23_code
def y_LR_sumHarm : MethodName := ⟨R_LR, "sumHarm", "()J"⟩
abbrev b_Lo_isAct : ByteArray := prog_3_method_19_code
def y_Lo_isAct : MethodName := ⟨R_Lo, "isAct", "()Z"⟩
abbrev b_LR_countActs : ByteArray := prog_1_method_22_code
def y_LR_countActs : MethodName := ⟨R_LR, "countActs", "()I"⟩
abbrev b_Lo_keepPicked : ByteArray := prog_3_method_8_code
def y_Lo_keepPicked : MethodName := ⟨R_Lo, "keepPicked", "()V"⟩
abbrev b_LR_keepChoice : ByteArray := prog_1_method_25_code
def y_LR_keepChoice : MethodName := ⟨R_LR, "keepChoice", "()V"⟩
abbrev b_Lo_pickNext : ByteArray := prog_3_method_7_code
def y_Lo_pickNext : MethodName := ⟨R_Lo, "pickNext", "()Z"⟩
abbrev b_LR_pickNextChoice : ByteArray := prog_1_method_24_code
def y_LR_pickNextChoice : MethodName := ⟨R_LR, "pickNextChoice", "()Z"⟩
abbrev b_Lo_takeKept : ByteArray := prog_3_method_9_code
def y_Lo_takeKept : MethodName := ⟨R_Lo, "takeKept", "()V"⟩
abbrev b_LR_takeKeptChoice : ByteArray := prog_1_method_26_code
def y_LR_takeKeptChoice : MethodName := ⟨R_LR, "takeKeptChoice", "()V"⟩
abbrev b_LR_solve : ByteArray := prog_1_method_8_code
def y_LR_solve : MethodName := ⟨R_LR, "solve", "()J"⟩
abbrev b_Mo_harm : ByteArray := prog_6_method_15_code
def y_Mo_harm : MethodName := ⟨R_Mo, "harm", "()J"⟩
abbrev b_Mo_actsNow : ByteArray := prog_6_method_16_code
def y_Mo_actsNow : MethodName := ⟨R_Mo, "actsNow", "()I"⟩
abbrev b_Mo_next : ByteArray := prog_6_method_19_code
def y_Mo_next : MethodName := ⟨R_Mo, "next", "()Z"⟩
abbrev b_Mo_solve : ByteArray := prog_6_method_20_code
def y_Mo_solve : MethodName := ⟨R_Mo, "solve", "()J"⟩
abbrev b_LR_chosen : ByteArray := prog_1_method_9_code
def y_LR_chosen : MethodName := ⟨R_LR, "chosen", "(I)I"⟩
abbrev b_Mo_chosen : ByteArray := prog_6_method_21_code
def y_Mo_chosen : MethodName := ⟨R_Mo, "chosen", "(I)I"⟩
abbrev b_LR_arrival : ByteArray := prog_1_method_10_code
def y_LR_arrival : MethodName := ⟨R_LR, "arrival", "(I)J"⟩
abbrev b_Mo_arrival : ByteArray := prog_6_method_22_code
def y_Mo_arrival : MethodName := ⟨R_Mo, "arrival", "(I)J"⟩
abbrev b_LR_departs : ByteArray := prog_1_method_11_code
def y_LR_departs : MethodName := ⟨R_LR, "departs", "(I)J"⟩
abbrev b_Mo_departs : ByteArray := prog_6_method_23_code
def y_Mo_departs : MethodName := ⟨R_Mo, "departs", "(I)J"⟩
abbrev b_LR_none : ByteArray := prog_1_method_12_code
def y_LR_none : MethodName := ⟨R_LR, "none", "(I)I"⟩
abbrev b_Mo_none : ByteArray := prog_6_method_24_code
def y_Mo_none : MethodName := ⟨R_Mo, "none", "(I)I"⟩
abbrev b_LR_acts : ByteArray := prog_1_method_13_code
def y_LR_acts : MethodName := ⟨R_LR, "acts", "()I"⟩
abbrev b_Mo_acts : ByteArray := prog_6_method_25_code
def y_Mo_acts : MethodName := ⟨R_Mo, "acts", "()I"⟩
abbrev b_La_law : ByteArray := code
end
section
/-! THE MEMORY: a world that is a function from addresses to cells, beside the heap's size; all of it lies at b0 or above -/
/-- a cell: an array of the kind k (a place in the list of the array types), or an object of a class of the list -/
abbrev mx_E : Type := (Nat × vp_A) ⊕ (Nat × List Value)
abbrev mx_Mem : Type := Nat × (Nat → Option mx_E)
/-- where the memory begins, the classes' numbers and slots, the array classes' numbers -/
abbrev mx_G : Type := Nat × va_G × (Nat → ClassId)
def mx_T (dA : Nat → ClassId) (e : mx_E) : va_E := match e with
  | .inl x => .inl (dA x.1, x.2)
  | .inr o => .inr o
def mx_M (cl : List vw_C) (G : mx_G) (mem : mx_Mem) (H : Heap) : Prop :=
  H.size = mem.1 ∧ ∀ (a : Nat) (e : mx_E), mem.2 a = some e → G.1 ≤ a ∧ va_at G.2.1 cl (a, mx_T G.2.2 e) H
def mx_A (G : mx_G) : Nat → Prop := fun q => G.1 ≤ q
/-- an object of the class ci -/
def mx_O (mem : mx_Mem) (r : Option Nat) (ci : Nat) : Option (Nat × List Value) := match r with
  | none => none
  | some a => match mem.2 a with
    | some (.inr o) => if o.1 = ci then some (a, o.2) else none
    | _ => none
/-- an array of the kind kd -/
def mx_R (mem : mx_Mem) (r : Option Nat) (kd : Nat) : Option (Nat × vp_A) := match r with
  | none => none
  | some a => match mem.2 a with
    | some (.inl x) => if x.1 = kd then some (a, x.2) else none
    | _ => none
theorem mx_O_spec {mem : mx_Mem} {r : Option Nat} {ci a : Nat} {fs : List Value} (h : mx_O mem r ci = some (a, fs)) : r = some a ∧ mem.2 a = some (.inr (ci, fs)) := by
  unfold mx_O at h
  split at h
  · cases h
  · split at h
    · rename_i b o ho
      split at h
      · rename_i hc
        cases h
        exact ⟨rfl, by rw [ho, ← hc]⟩
      · cases h
    · cases h
theorem mx_R_spec {mem : mx_Mem} {r : Option Nat} {kd a : Nat} {x : vp_A} (h : mx_R mem r kd = some (a, x)) : r = some a ∧ mem.2 a = some (.inl (kd, x)) := by
  unfold mx_R at h
  split at h
  · cases h
  · split at h
    · rename_i b o ho
      split at h
      · rename_i hc
        cases h
        exact ⟨rfl, by rw [ho, ← hc]⟩
      · cases h
    · cases h
theorem mx_O_of {mem : mx_Mem} {ci a : Nat} {fs : List Value} (h : mem.2 a = some (.inr (ci, fs))) : mx_O mem (some a) ci = some (a, fs) := by
  simp [mx_O, h]
theorem mx_R_of {mem : mx_Mem} {kd a : Nat} {x : vp_A} (h : mem.2 a = some (.inl (kd, x))) : mx_R mem (some a) kd = some (a, x) := by
  simp [mx_R, h]
/-- reads of fields -/
def mx_gi (mem : mx_Mem) (r : Option Nat) (ci k : Nat) : Option Int32 := match mx_O mem r ci with
  | some q => (match q.2[k]? with
    | some (.int v) => some v
    | _ => none)
  | none => none
def mx_gl (mem : mx_Mem) (r : Option Nat) (ci k : Nat) : Option Int64 := match mx_O mem r ci with
  | some q => (match q.2[k]? with
    | some (.long v) => some v
    | _ => none)
  | none => none
def mx_gr (mem : mx_Mem) (r : Option Nat) (ci k : Nat) : Option (Option Nat) := match mx_O mem r ci with
  | some q => (match q.2[k]? with
    | some (.ref v) => some (some v)
    | some .null => some none
    | _ => none)
  | none => none
theorem mx_gi_spec {mem : mx_Mem} {r : Option Nat} {ci k : Nat} {v : Int32} (h : mx_gi mem r ci k = some v) : ∃ (a : Nat) (fs : List Value), mx_O mem r ci = some (a, fs) ∧ fs[k]? = some (.int v) := by
  unfold mx_gi at h
  split at h
  · rename_i q hq
    split at h
    · rename_i w hw
      cases h
      exact ⟨q.1, q.2, hq, hw⟩
    · cases h
  · cases h
theorem mx_gl_spec {mem : mx_Mem} {r : Option Nat} {ci k : Nat} {v : Int64} (h : mx_gl mem r ci k = some v) : ∃ (a : Nat) (fs : List Value), mx_O mem r ci = some (a, fs) ∧ fs[k]? = some (.long v) := by
  unfold mx_gl at h
  split at h
  · rename_i q hq
    split at h
    · rename_i w hw
      cases h
      exact ⟨q.1, q.2, hq, hw⟩
    · cases h
  · cases h
theorem mx_gr_spec {mem : mx_Mem} {r : Option Nat} {ci k : Nat} {v : Option Nat} (h : mx_gr mem r ci k = some v) : ∃ (a : Nat) (fs : List Value), mx_O mem r ci = some (a, fs) ∧ fs[k]? = some (va_rf v) := by
  unfold mx_gr at h
  split at h
  · rename_i q hq
    split at h
    · rename_i w hw
      cases h
      exact ⟨q.1, q.2, hq, hw⟩
    · rename_i hw
      cases h
      exact ⟨q.1, q.2, hq, hw⟩
    · cases h
  · cases h
/-- a field is written -/
def mx_p (mem : mx_Mem) (r : Option Nat) (ci k : Nat) (v : Value) : Option mx_Mem := match mx_O mem r ci with
  | some q => if k < q.2.length then some (mem.1, va_up mem.2 q.1 (some (.inr (ci, q.2.set k v)))) else none
  | none => none
theorem mx_p_spec {mem mem' : mx_Mem} {r : Option Nat} {ci k : Nat} {v : Value} (h : mx_p mem r ci k v = some mem') : ∃ (a : Nat) (fs : List Value), mx_O mem r ci = some (a, fs) ∧ k < fs.length ∧ mem' = (mem.1, va_up mem.2 a (some (.inr (ci, fs.set k v)))) := by
  unfold mx_p at h
  split at h
  · rename_i q hq
    split at h
    · rename_i hk
      cases h
      exact ⟨q.1, q.2, hq, hk, rfl⟩
    · cases h
  · cases h
/-- an object, an array more -/
def mx_n (mem : mx_Mem) (e : mx_E) : mx_Mem := (mem.1 + 1, va_up mem.2 mem.1 (some e))
/-- arrays: length, and those of references: read, write -/
def mx_al (mem : mx_Mem) (r : Option Nat) (kd : Nat) : Option Int32 := match mx_R mem r kd with
  | some q => some (Int32.ofNat q.2.1)
  | none => none
def mx_ag (mem : mx_Mem) (r : Option Nat) (kd : Nat) (i : Int32) : Option (Option Nat) := match mx_R mem r kd with
  | some (_, (n, .inr (.inr (.inr (.inr f))))) => if 0 ≤ i ∧ i.toNatClampNeg < n then some (f i.toNatClampNeg) else none
  | _ => none
def mx_as (mem : mx_Mem) (r : Option Nat) (kd : Nat) (i : Int32) (v : Option Nat) : Option mx_Mem := match mx_R mem r kd with
  | some (a, (n, .inr (.inr (.inr (.inr f))))) => if 0 ≤ i ∧ i.toNatClampNeg < n then some (mem.1, va_up mem.2 a (some (.inl (kd, n, .inr (.inr (.inr (.inr (va_up f i.toNatClampNeg v)))))))) else none
  | _ => none
/-- an object of the class ci is meant: its address -/
def mx_c (mem : mx_Mem) (r : Option Nat) (ci : Nat) : Option Nat := match mx_O mem r ci with
  | some q => some q.1
  | none => none
theorem mx_c_spec {mem : mx_Mem} {r : Option Nat} {ci a : Nat} (h : mx_c mem r ci = some a) : ∃ fs : List Value, mx_O mem r ci = some (a, fs) := by
  unfold mx_c at h
  split at h
  · rename_i q hq
    cases h
    exact ⟨q.2, hq⟩
  · cases h
theorem mx_al_spec {mem : mx_Mem} {r : Option Nat} {kd : Nat} {v : Int32} (h : mx_al mem r kd = some v) : ∃ (a : Nat) (x : vp_A), mx_R mem r kd = some (a, x) ∧ Int32.ofNat x.1 = v := by
  unfold mx_al at h
  split at h
  · rename_i q hq
    cases h
    exact ⟨q.1, q.2, hq, rfl⟩
  · cases h
theorem mx_in {i : Int32} {n : Nat} (h : 0 ≤ i ∧ i.toNatClampNeg < n) : vp_in i n := by
  intro q
  rcases q with q | q
  · have h1 := Int32.lt_iff_toInt_lt.mp q
    have h2 := Int32.le_iff_toInt_le.mp h.1
    omega
  · omega
theorem mx_ag_spec {mem : mx_Mem} {r : Option Nat} {kd : Nat} {i : Int32} {v : Option Nat} (h : mx_ag mem r kd i = some v) : ∃ (a n : Nat) (f : Nat → Option Nat), mx_R mem r kd = some (a, (n, .inr (.inr (.inr (.inr f))))) ∧ vp_in i n ∧ v = f i.toNatClampNeg := by
  unfold mx_ag at h
  split at h
  · rename_i a n f hq
    split at h
    · rename_i hi
      cases h
      exact ⟨a, n, f, hq, mx_in hi, rfl⟩
    · cases h
  · cases h
theorem mx_as_spec {mem mem' : mx_Mem} {r : Option Nat} {kd : Nat} {i : Int32} {v : Option Nat} (h : mx_as mem r kd i v = some mem') : ∃ (a n : Nat) (f : Nat → Option Nat), mx_R mem r kd = some (a, (n, .inr (.inr (.inr (.inr f))))) ∧ vp_in i n ∧ mem' = (mem.1, va_up mem.2 a (some (.inl (kd, n, .inr (.inr (.inr (.inr (va_up f i.toNatClampNeg v)))))))) := by
  unfold mx_as at h
  split at h
  · rename_i a n f hq
    split at h
    · rename_i hi
      cases h
      exact ⟨a, n, f, hq, mx_in hi, rfl⟩
    · cases h
  · cases h
/-- a step of a computation that may fail -/
theorem mx_b {α β : Type} {o : Option α} {f : α → Option β} {r : β} (h : o.bind f = some r) : ∃ v, o = some v ∧ f v = some r := by
  cases o with
  | none => cases h
  | some v => exact ⟨v, rfl, h⟩
/-- the memory behind a write, behind a making -/
theorem mx_M.put {cl : List vw_C} {G : mx_G} {mem : mx_Mem} {H H1 : Heap} {a : Nat} {e : mx_E} (h : mx_M cl G mem H) {e0 : mx_E} (h0 : mem.2 a = some e0) (z : H1.size = H.size) (oq : ∀ q : Nat, q ≠ a → H1[q]? = H[q]?) (he : va_at G.2.1 cl (a, mx_T G.2.2 e) H1) : mx_M cl G (mem.1, va_up mem.2 a (some e)) H1 := by
  refine ⟨z.trans h.1, fun b x hx => ?_⟩
  by_cases hb : b = a
  · subst hb
    dsimp only at hx
    rw [va_up_self] at hx
    cases hx
    exact ⟨(h.2 b e0 h0).1, he⟩
  · dsimp only at hx
    rw [va_up_ne _ _ hb] at hx
    exact ⟨(h.2 b x hx).1, (h.2 b x hx).2.kept (oq b hb)⟩
theorem mx_M.lt {cl : List vw_C} {G : mx_G} {mem : mx_Mem} {H : Heap} (h : mx_M cl G mem H) {a : Nat} {e : mx_E} (ha : mem.2 a = some e) : a < mem.1 := by
  have h1 := (h.2 a e ha).2.lt
  rw [h.1] at h1
  exact h1
theorem mx_M.push {cl : List vw_C} {G : mx_G} {mem : mx_Mem} {H H1 : Heap} {e : mx_E} (h : mx_M cl G mem H) (hb : G.1 ≤ H.size) (z : H1.size = H.size + 1) (oq : ∀ q : Nat, q < H.size → H1[q]? = H[q]?) (he : va_at G.2.1 cl (H.size, mx_T G.2.2 e) H1) : mx_M cl G (mx_n mem e) H1 := by
  refine ⟨by rw [z, h.1]; rfl, fun b x hx => ?_⟩
  by_cases hb1 : b = mem.1
  · subst hb1
    rw [show (mx_n mem e).2 mem.1 = some e from va_up_self _ _ _] at hx
    cases hx
    rw [← h.1]
    exact ⟨hb, he⟩
  · rw [show (mx_n mem e).2 b = mem.2 b from va_up_ne _ _ hb1] at hx
    refine ⟨(h.2 b x hx).1, (h.2 b x hx).2.kept (oq b ?_)⟩
    exact (h.2 b x hx).2.lt
theorem mx_M.one {cl : List vw_C} {G : mx_G} {mem : mx_Mem} {H : Heap} (h : mx_M cl G mem H) {a : Nat} {e : mx_E} (ha : mem.2 a = some e) : va_P G.2.1 cl [(a, mx_T G.2.2 e)] H := by
  intro k q hk
  have hz : k < 1 := (List.getElem?_eq_some_iff.mp hk).1
  rw [show k = 0 by omega] at hk
  cases hk
  exact (h.2 a e ha).2
end
section
/-! STEPS over the memory: a row an instruction -/
theorem mx_cat (r : Option Nat) : (va_rf r).category = 1 := by cases r <;> rfl
theorem mx_cati (x : Int32) : (Value.int x).category = 1 := rfl
theorem mx_catl (x : Int64) : (Value.long x).category = 2 := rfl
theorem mx_catr (x : Nat) : (Value.ref x).category = 1 := rfl
theorem mx_ref_nar {C : String} (r : Option Nat) : narrow (.object C) (va_rf r) = va_rf r := by cases r <;> rfl
theorem mx_ref_fit {C : String} (r : Option Nat) : fits (.object C) (va_rf r) = true := by cases r <;> rfl
theorem mx_arr_nar {t : FieldType} (r : Option Nat) : narrow (.array t) (va_rf r) = va_rf r := by cases r <;> rfl
theorem mx_arr_fit {t : FieldType} (r : Option Nat) : fits (.array t) (va_rf r) = true := by cases r <;> rfl
/-- a boolean -/
def mx_z (x : Int32) : Option Unit := if x = 0 ∨ x = 1 then some () else none
theorem mx_z_spec {x : Int32} {u : Unit} (h : mx_z x = some u) : x = 0 ∨ x = 1 := by
  unfold mx_z at h
  split at h
  · assumption
  · cases h
theorem mx_z_nar {x : Int32} {u : Unit} (h : mx_z x = some u) : narrow .boolean (.int x) = .int x := by
  rcases mx_z_spec h with rfl | rfl <;> rfl
theorem mx_z_fit {x : Int32} {u : Unit} (h : mx_z x = some u) : fits .boolean (.int x) = true := by
  rcases mx_z_spec h with rfl | rfl <;> rfl
/-- null, or an object of the class ci -/
def mx_cn (mem : mx_Mem) (v : Option Nat) (ci : Nat) : Option Unit := match v with
  | none => some ()
  | some _ => match mx_O mem v ci with
    | some _ => some ()
    | none => none
theorem mx_c_eq {mem : mx_Mem} {r : Option Nat} {ci a : Nat} (h : mx_c mem r ci = some a) : r = some a := by
  obtain ⟨fs, h⟩ := mx_c_spec h
  exact (mx_O_spec h).1
section MXS
variable {p : Program} {l : Launch} {e : Env} {R : Room} {s : State} {m : MethodId} {args : Array Value} {below : List Frame} {meth : Method} {c : Code} {H : Heap} {locs : List Loc} {cells slots : Nat} {Q : State → Prop}
variable {cc : ByteArray} {pc : Nat} {ls : Array Slot} {rest : List Value} {cl : List vw_C} {G : mx_G} {mem mem' : mx_Mem} {H0 : Heap} {tys : List (ClassId × FieldType)}
theorem mx_aload_n (hexec : p.tables.exec = Jvm.exec) (hb : c.code = cc) {k : Fin 4} {i : Nat} {r : Option Nat} (hdg : decode cc pc = .ok (.aload_n k, 1)) (hi : (k : Nat) = i) (hl : ls[i]? = some (.val (va_rf r)))
    (kk : W p l e R s m args below meth c H locs cells slots Q (F0 m (pc + 1) ls (va_rf r :: rest))) : W p l e R s m args below meth c H locs cells slots Q (F0 m pc ls rest) := by
  cases r with
  | none => exact lv_aload_nN hexec hb hdg hi hl kk
  | some a => exact lv_aload_n hexec hb hdg hi hl kk
theorem mx_aload (hexec : p.tables.exec = Jvm.exec) (hb : c.code = cc) {i : Nat} {r : Option Nat} (hdg : decode cc pc = .ok (.aload i, 2)) (hl : ls[i]? = some (.val (va_rf r)))
    (kk : W p l e R s m args below meth c H locs cells slots Q (F0 m (pc + 2) ls (va_rf r :: rest))) : W p l e R s m args below meth c H locs cells slots Q (F0 m pc ls rest) := by
  cases r with
  | none => exact lv_aloadN hexec hb hdg hl kk
  | some a => exact lv_aload hexec hb hdg hl kk
theorem mx_astore_n (hexec : p.tables.exec = Jvm.exec) (hb : c.code = cc) {k : Fin 4} {i nL : Nat} {r : Option Nat} {lv lv' : List (Nat × Value)} (hdg : decode cc pc = .ok (.astore_n k, 1)) (hi : (k : Nat) = i) (h : lv_has ls nL lv) (hn : i < nL) (hl : (i, va_rf r) :: lv.filter (fun q => !(q.1 == i) && !(q.1 + 1 == i && q.2.category == 2)) = lv')
    (kk : ∀ ls' : Array Slot, lv_has ls' nL lv' → W p l e R s m args below meth c H locs cells slots Q (F0 m (pc + 1) ls' rest)) : W p l e R s m args below meth c H locs cells slots Q (F0 m pc ls (va_rf r :: rest)) := by
  cases r with
  | none => exact lv_astore_nN hexec hb hdg hi h hn hl kk
  | some a => exact lv_astore_n hexec hb hdg hi h hn hl kk
theorem mx_astore (hexec : p.tables.exec = Jvm.exec) (hb : c.code = cc) {i nL : Nat} {r : Option Nat} {lv lv' : List (Nat × Value)} (hdg : decode cc pc = .ok (.astore i, 2)) (h : lv_has ls nL lv) (hn : i < nL) (hl : (i, va_rf r) :: lv.filter (fun q => !(q.1 == i) && !(q.1 + 1 == i && q.2.category == 2)) = lv')
    (kk : ∀ ls' : Array Slot, lv_has ls' nL lv' → W p l e R s m args below meth c H locs cells slots Q (F0 m (pc + 2) ls' rest)) : W p l e R s m args below meth c H locs cells slots Q (F0 m pc ls (va_rf r :: rest)) := by
  cases r with
  | none => exact lv_astoreN hexec hb hdg h hn hl kk
  | some a => exact lv_astore hexec hb hdg h hn hl kk
theorem mx_null (hexec : p.tables.exec = Jvm.exec) (hb : c.code = cc) (hdg : decode cc pc = .ok (.aconst_null, 1)) (k : W p l e R s m args below meth c H locs cells slots Q (F0 m (pc + 1) ls (va_rf none :: rest))) : W p l e R s m args below meth c H locs cells slots Q (F0 m pc ls rest) := lv_null hexec hb hdg k
theorem mx_ifnull (hexec : p.tables.exec = Jvm.exec) (hb : c.code = cc) {r : Option Nat} {off : Int} {tgt : Nat} (hdg : decode cc pc = .ok (.ifnull off, 3)) (ht : (pc : Int) + off = (tgt : Int))
    (kt : r = none → W p l e R s m args below meth c H locs cells slots Q (F0 m tgt ls rest)) (kf : ¬ r = none → W p l e R s m args below meth c H locs cells slots Q (F0 m (pc + 3) ls rest)) : W p l e R s m args below meth c H locs cells slots Q (F0 m pc ls (va_rf r :: rest)) := by
  cases r with
  | none => exact lv_ifnullN hexec hb hdg ht (kt rfl)
  | some a => exact lv_ifnull hexec hb hdg (kf (fun h => by cases h))
theorem mx_ifnonnull (hexec : p.tables.exec = Jvm.exec) (hb : c.code = cc) {r : Option Nat} {off : Int} {tgt : Nat} (hdg : decode cc pc = .ok (.ifnonnull off, 3)) (ht : (pc : Int) + off = (tgt : Int))
    (kt : ¬ r = none → W p l e R s m args below meth c H locs cells slots Q (F0 m tgt ls rest)) (kf : r = none → W p l e R s m args below meth c H locs cells slots Q (F0 m (pc + 3) ls rest)) : W p l e R s m args below meth c H locs cells slots Q (F0 m pc ls (va_rf r :: rest)) := by
  cases r with
  | none => exact lv_ifnonnullN hexec hb hdg (kf rfl)
  | some a => exact lv_ifnonnull hexec hb hdg ht (kt (fun h => by cases h))
theorem mx_cmp_lt (x y : Int64) : lg_cmp x y < 0 ↔ x < y := by
  unfold lg_cmp
  by_cases h1 : x > y
  · rw [if_pos h1]
    have h2 := Int64.lt_iff_toInt_lt.mp h1
    constructor
    · intro h; exact absurd h (by decide)
    · intro h; have h3 := Int64.lt_iff_toInt_lt.mp h; omega
  · rw [if_neg h1]
    by_cases h2 : x = y
    · rw [if_pos h2]
      subst h2
      constructor
      · intro h; exact absurd h (by decide)
      · intro h; exact absurd h (Int64.lt_irrefl)
    · rw [if_neg h2]
      have h3 : ¬ x.toInt > y.toInt := fun h => h1 (Int64.lt_iff_toInt_lt.mpr h)
      have h4 : x.toInt ≠ y.toInt := fun h => h2 (Int64.toInt_inj.mp h)
      constructor
      · intro _; exact Int64.lt_iff_toInt_lt.mpr (by omega)
      · intro _; decide
theorem mx_cmp_gt (x y : Int64) : 0 < lg_cmp x y ↔ y < x := by
  unfold lg_cmp
  by_cases h1 : x > y
  · rw [if_pos h1]
    exact ⟨fun _ => h1, fun _ => by decide⟩
  · rw [if_neg h1]
    by_cases h2 : x = y
    · rw [if_pos h2]
      exact ⟨fun h => absurd h (by decide), fun h => absurd h h1⟩
    · rw [if_neg h2]
      exact ⟨fun h => absurd h (by decide), fun h => absurd h h1⟩
theorem mx_cmp_eq (x y : Int64) : lg_cmp x y = 0 ↔ x = y := by
  unfold lg_cmp
  by_cases h1 : x > y
  · rw [if_pos h1]
    constructor
    · intro h; exact absurd h (by decide)
    · intro h; subst h; exact absurd h1 Int64.lt_irrefl
  · rw [if_neg h1]
    by_cases h2 : x = y
    · rw [if_pos h2]; exact ⟨fun _ => h2, fun _ => rfl⟩
    · rw [if_neg h2]; exact ⟨fun h => absurd h (by decide), fun h => absurd h h2⟩
theorem mx_l_not {x y : Int64} : ¬ x < y ↔ y ≤ x := by
  rw [Int64.lt_iff_toInt_lt, Int64.le_iff_toInt_le]; omega
theorem mx_i_not {x y : Int32} : ¬ x < y ↔ y ≤ x := by
  rw [Int32.lt_iff_toInt_lt, Int32.le_iff_toInt_le]; omega
theorem mx_lcmp_lt (hexec : p.tables.exec = Jvm.exec) (hb : c.code = cc) {x y : Int64} {off : Int} {tgt : Nat} (hd1 : decode cc pc = .ok (.lcmp, 1)) (hd2 : decode cc (pc + 1) = .ok (.ifCond .lt off, 3)) (ht : ((pc + 1 : Nat) : Int) + off = (tgt : Int))
    (kt : x < y → W p l e R s m args below meth c H locs cells slots Q (F0 m tgt ls rest)) (kf : ¬ x < y → W p l e R s m args below meth c H locs cells slots Q (F0 m (pc + 1 + 3) ls rest)) : W p l e R s m args below meth c H locs cells slots Q (F0 m pc ls (.long y :: .long x :: rest)) :=
  W.lcmp hexec hb hd1 (lv_if_lt hexec hb hd2 ht (fun h => kt ((mx_cmp_lt x y).mp h)) (fun h => kf (fun g => h ((mx_cmp_lt x y).mpr g))))
theorem mx_lcmp_gt (hexec : p.tables.exec = Jvm.exec) (hb : c.code = cc) {x y : Int64} {off : Int} {tgt : Nat} (hd1 : decode cc pc = .ok (.lcmp, 1)) (hd2 : decode cc (pc + 1) = .ok (.ifCond .gt off, 3)) (ht : ((pc + 1 : Nat) : Int) + off = (tgt : Int))
    (kt : y < x → W p l e R s m args below meth c H locs cells slots Q (F0 m tgt ls rest)) (kf : ¬ y < x → W p l e R s m args below meth c H locs cells slots Q (F0 m (pc + 1 + 3) ls rest)) : W p l e R s m args below meth c H locs cells slots Q (F0 m pc ls (.long y :: .long x :: rest)) :=
  W.lcmp hexec hb hd1 (lv_if_gt hexec hb hd2 ht (fun h => kt ((mx_cmp_gt x y).mp h)) (fun h => kf (fun g => h ((mx_cmp_gt x y).mpr g))))
theorem mx_lcmp_ge (hexec : p.tables.exec = Jvm.exec) (hb : c.code = cc) {x y : Int64} {off : Int} {tgt : Nat} (hd1 : decode cc pc = .ok (.lcmp, 1)) (hd2 : decode cc (pc + 1) = .ok (.ifCond .ge off, 3)) (ht : ((pc + 1 : Nat) : Int) + off = (tgt : Int))
    (kt : y ≤ x → W p l e R s m args below meth c H locs cells slots Q (F0 m tgt ls rest)) (kf : ¬ y ≤ x → W p l e R s m args below meth c H locs cells slots Q (F0 m (pc + 1 + 3) ls rest)) : W p l e R s m args below meth c H locs cells slots Q (F0 m pc ls (.long y :: .long x :: rest)) :=
  W.lcmp hexec hb hd1 (lv_if_ge hexec hb hd2 ht (fun h => kt (mx_l_not.mp (fun g => mx_i_not.mpr h ((mx_cmp_lt x y).mpr g)))) (fun h => kf (fun g => h (mx_i_not.mp (fun g2 => mx_l_not.mpr g ((mx_cmp_lt x y).mp g2))))))
theorem mx_lcmp_le (hexec : p.tables.exec = Jvm.exec) (hb : c.code = cc) {x y : Int64} {off : Int} {tgt : Nat} (hd1 : decode cc pc = .ok (.lcmp, 1)) (hd2 : decode cc (pc + 1) = .ok (.ifCond .le off, 3)) (ht : ((pc + 1 : Nat) : Int) + off = (tgt : Int))
    (kt : x ≤ y → W p l e R s m args below meth c H locs cells slots Q (F0 m tgt ls rest)) (kf : ¬ x ≤ y → W p l e R s m args below meth c H locs cells slots Q (F0 m (pc + 1 + 3) ls rest)) : W p l e R s m args below meth c H locs cells slots Q (F0 m pc ls (.long y :: .long x :: rest)) :=
  W.lcmp hexec hb hd1 (lv_if_le hexec hb hd2 ht (fun h => kt (mx_l_not.mp (fun g => mx_i_not.mpr h ((mx_cmp_gt x y).mpr g)))) (fun h => kf (fun g => h (mx_i_not.mp (fun g2 => mx_l_not.mpr g ((mx_cmp_gt x y).mp g2))))))
theorem mx_lcmp_eq (hexec : p.tables.exec = Jvm.exec) (hb : c.code = cc) {x y : Int64} {off : Int} {tgt : Nat} (hd1 : decode cc pc = .ok (.lcmp, 1)) (hd2 : decode cc (pc + 1) = .ok (.ifCond .eq off, 3)) (ht : ((pc + 1 : Nat) : Int) + off = (tgt : Int))
    (kt : x = y → W p l e R s m args below meth c H locs cells slots Q (F0 m tgt ls rest)) (kf : ¬ x = y → W p l e R s m args below meth c H locs cells slots Q (F0 m (pc + 1 + 3) ls rest)) : W p l e R s m args below meth c H locs cells slots Q (F0 m pc ls (.long y :: .long x :: rest)) :=
  W.lcmp hexec hb hd1 (lv_if_eq hexec hb hd2 ht (fun h => kt ((mx_cmp_eq x y).mp h)) (fun h => kf (fun g => h ((mx_cmp_eq x y).mpr g))))
theorem mx_lcmp_ne (hexec : p.tables.exec = Jvm.exec) (hb : c.code = cc) {x y : Int64} {off : Int} {tgt : Nat} (hd1 : decode cc pc = .ok (.lcmp, 1)) (hd2 : decode cc (pc + 1) = .ok (.ifCond .ne off, 3)) (ht : ((pc + 1 : Nat) : Int) + off = (tgt : Int))
    (kt : ¬ x = y → W p l e R s m args below meth c H locs cells slots Q (F0 m tgt ls rest)) (kf : x = y → W p l e R s m args below meth c H locs cells slots Q (F0 m (pc + 1 + 3) ls rest)) : W p l e R s m args below meth c H locs cells slots Q (F0 m pc ls (.long y :: .long x :: rest)) :=
  W.lcmp hexec hb hd1 (lv_if_ne hexec hb hd2 ht (fun h => kt (fun g => h ((mx_cmp_eq x y).mpr g))) (fun h => kf ((mx_cmp_eq x y).mp h)))
/-! fields -/
theorem mx_get (hexec : p.tables.exec = Jvm.exec) (hb : c.code = cc) {own C : String} {T : u_T} {N ci index : Nat} {Ts : List Cond} (hts : ∀ w ∈ Ts, w.before args s = true) (hin : ∀ w ∈ u_ws C T N, w ∈ Ts) (hown : s.vm.findClass own = some m.cls) (hK : va_K G.2.1 cl tys s) (hM : mx_M cl G mem H) {r : Option Nat} {a : Nat} {fs : List Value} (he : mx_O mem r ci = some (a, fs)) (hc : cl[ci]? = some (C, T, N)) (k : Nat) (hk : k < N) (hlink : (Cond.fieldLink own index (T k).1 (T k).2.1 (T k).2.2.1).before args s = true) {v : Value} (hv : fs[k]? = some v) (hdg : decode cc pc = .ok (.getfield index, 3))
    (kk : W p l e R s m args below meth c H locs cells slots Q (F0 m (pc + 3) ls (v :: rest))) : W p l e R s m args below meth c H locs cells slots Q (F0 m pc ls (va_rf r :: rest)) := by
  obtain ⟨rfl, h1⟩ := mx_O_spec he
  exact va_get (D := G.2.1) (ci := ci) hexec hb hts hin hown hK (hM.one h1) 0 rfl hc k hk hlink (fun _ h9 => h9) hv hdg kk
theorem mx_getN (hexec : p.tables.exec = Jvm.exec) (hb : c.code = cc) {own C host : String} {T : u_T} {N ci index : Nat} {Ts : List Cond} (hts : ∀ w ∈ Ts, w.before args s = true) (hin : ∀ w ∈ u_ws C T N, w ∈ Ts) (hown : s.vm.findClass own = some m.cls) (hK : va_K G.2.1 cl tys s) (hM : mx_M cl G mem H) {r : Option Nat} {a : Nat} {fs : List Value} (he : mx_O mem r ci = some (a, fs)) (hc : cl[ci]? = some (C, T, N)) (k : Nat) (hk : k < N) (hlink : (Cond.fieldLinkNest own index (T k).1 (T k).2.1 (T k).2.2.1 host).before args s = true) {v : Value} (hv : fs[k]? = some v) (hdg : decode cc pc = .ok (.getfield index, 3))
    (kk : W p l e R s m args below meth c H locs cells slots Q (F0 m (pc + 3) ls (v :: rest))) : W p l e R s m args below meth c H locs cells slots Q (F0 m pc ls (va_rf r :: rest)) := by
  obtain ⟨rfl, h1⟩ := mx_O_spec he
  exact va_getN (D := G.2.1) (ci := ci) hexec hb hts hin hown hK (hM.one h1) 0 rfl hc k hk hlink (fun _ h9 => h9) hv hdg kk
theorem mx_geti (hexec : p.tables.exec = Jvm.exec) (hb : c.code = cc) {own C : String} {T : u_T} {N ci index : Nat} {Ts : List Cond} (hts : ∀ w ∈ Ts, w.before args s = true) (hin : ∀ w ∈ u_ws C T N, w ∈ Ts) (hown : s.vm.findClass own = some m.cls) (hK : va_K G.2.1 cl tys s) (hM : mx_M cl G mem H) {k : Nat} {r : Option Nat} {x : Int32} (he : mx_gi mem r ci k = some x) (hc : cl[ci]? = some (C, T, N)) (k' : Nat) (hk : k < N) (hlink : (Cond.fieldLink own index (T k).1 (T k).2.1 (T k).2.2.1).before args s = true) (hdg : decode cc pc = .ok (.getfield index, 3))
    (kk : W p l e R s m args below meth c H locs cells slots Q (F0 m (pc + 3) ls (.int x :: rest))) : W p l e R s m args below meth c H locs cells slots Q (F0 m pc ls (va_rf r :: rest)) := by
  obtain ⟨a, fs, h1, h2⟩ := mx_gi_spec he
  exact mx_get hexec hb hts hin hown hK hM h1 hc k hk hlink h2 hdg kk
theorem mx_getl (hexec : p.tables.exec = Jvm.exec) (hb : c.code = cc) {own C : String} {T : u_T} {N ci index : Nat} {Ts : List Cond} (hts : ∀ w ∈ Ts, w.before args s = true) (hin : ∀ w ∈ u_ws C T N, w ∈ Ts) (hown : s.vm.findClass own = some m.cls) (hK : va_K G.2.1 cl tys s) (hM : mx_M cl G mem H) {k : Nat} {r : Option Nat} {x : Int64} (he : mx_gl mem r ci k = some x) (hc : cl[ci]? = some (C, T, N)) (k' : Nat) (hk : k < N) (hlink : (Cond.fieldLink own index (T k).1 (T k).2.1 (T k).2.2.1).before args s = true) (hdg : decode cc pc = .ok (.getfield index, 3))
    (kk : W p l e R s m args below meth c H locs cells slots Q (F0 m (pc + 3) ls (.long x :: rest))) : W p l e R s m args below meth c H locs cells slots Q (F0 m pc ls (va_rf r :: rest)) := by
  obtain ⟨a, fs, h1, h2⟩ := mx_gl_spec he
  exact mx_get hexec hb hts hin hown hK hM h1 hc k hk hlink h2 hdg kk
theorem mx_getr (hexec : p.tables.exec = Jvm.exec) (hb : c.code = cc) {own C : String} {T : u_T} {N ci index : Nat} {Ts : List Cond} (hts : ∀ w ∈ Ts, w.before args s = true) (hin : ∀ w ∈ u_ws C T N, w ∈ Ts) (hown : s.vm.findClass own = some m.cls) (hK : va_K G.2.1 cl tys s) (hM : mx_M cl G mem H) {k : Nat} {r x : Option Nat} (he : mx_gr mem r ci k = some x) (hc : cl[ci]? = some (C, T, N)) (k' : Nat) (hk : k < N) (hlink : (Cond.fieldLink own index (T k).1 (T k).2.1 (T k).2.2.1).before args s = true) (hdg : decode cc pc = .ok (.getfield index, 3))
    (kk : W p l e R s m args below meth c H locs cells slots Q (F0 m (pc + 3) ls (va_rf x :: rest))) : W p l e R s m args below meth c H locs cells slots Q (F0 m pc ls (va_rf r :: rest)) := by
  obtain ⟨a, fs, h1, h2⟩ := mx_gr_spec he
  exact mx_get hexec hb hts hin hown hK hM h1 hc k hk hlink h2 hdg kk
theorem mx_getiN (hexec : p.tables.exec = Jvm.exec) (hb : c.code = cc) {own C host : String} {T : u_T} {N ci index : Nat} {Ts : List Cond} (hts : ∀ w ∈ Ts, w.before args s = true) (hin : ∀ w ∈ u_ws C T N, w ∈ Ts) (hown : s.vm.findClass own = some m.cls) (hK : va_K G.2.1 cl tys s) (hM : mx_M cl G mem H) {k : Nat} {r : Option Nat} {x : Int32} (he : mx_gi mem r ci k = some x) (hc : cl[ci]? = some (C, T, N)) (k' : Nat) (hk : k < N) (hlink : (Cond.fieldLinkNest own index (T k).1 (T k).2.1 (T k).2.2.1 host).before args s = true) (hdg : decode cc pc = .ok (.getfield index, 3))
    (kk : W p l e R s m args below meth c H locs cells slots Q (F0 m (pc + 3) ls (.int x :: rest))) : W p l e R s m args below meth c H locs cells slots Q (F0 m pc ls (va_rf r :: rest)) := by
  obtain ⟨a, fs, h1, h2⟩ := mx_gi_spec he
  exact mx_getN hexec hb hts hin hown hK hM h1 hc k hk hlink h2 hdg kk
theorem mx_getlN (hexec : p.tables.exec = Jvm.exec) (hb : c.code = cc) {own C host : String} {T : u_T} {N ci index : Nat} {Ts : List Cond} (hts : ∀ w ∈ Ts, w.before args s = true) (hin : ∀ w ∈ u_ws C T N, w ∈ Ts) (hown : s.vm.findClass own = some m.cls) (hK : va_K G.2.1 cl tys s) (hM : mx_M cl G mem H) {k : Nat} {r : Option Nat} {x : Int64} (he : mx_gl mem r ci k = some x) (hc : cl[ci]? = some (C, T, N)) (k' : Nat) (hk : k < N) (hlink : (Cond.fieldLinkNest own index (T k).1 (T k).2.1 (T k).2.2.1 host).before args s = true) (hdg : decode cc pc = .ok (.getfield index, 3))
    (kk : W p l e R s m args below meth c H locs cells slots Q (F0 m (pc + 3) ls (.long x :: rest))) : W p l e R s m args below meth c H locs cells slots Q (F0 m pc ls (va_rf r :: rest)) := by
  obtain ⟨a, fs, h1, h2⟩ := mx_gl_spec he
  exact mx_getN hexec hb hts hin hown hK hM h1 hc k hk hlink h2 hdg kk
theorem mx_getrN (hexec : p.tables.exec = Jvm.exec) (hb : c.code = cc) {own C host : String} {T : u_T} {N ci index : Nat} {Ts : List Cond} (hts : ∀ w ∈ Ts, w.before args s = true) (hin : ∀ w ∈ u_ws C T N, w ∈ Ts) (hown : s.vm.findClass own = some m.cls) (hK : va_K G.2.1 cl tys s) (hM : mx_M cl G mem H) {k : Nat} {r x : Option Nat} (he : mx_gr mem r ci k = some x) (hc : cl[ci]? = some (C, T, N)) (k' : Nat) (hk : k < N) (hlink : (Cond.fieldLinkNest own index (T k).1 (T k).2.1 (T k).2.2.1 host).before args s = true) (hdg : decode cc pc = .ok (.getfield index, 3))
    (kk : W p l e R s m args below meth c H locs cells slots Q (F0 m (pc + 3) ls (va_rf x :: rest))) : W p l e R s m args below meth c H locs cells slots Q (F0 m pc ls (va_rf r :: rest)) := by
  obtain ⟨a, fs, h1, h2⟩ := mx_gr_spec he
  exact mx_getN hexec hb hts hin hown hK hM h1 hc k hk hlink h2 hdg kk
theorem mx_put (hexec : p.tables.exec = Jvm.exec) (hb : c.code = cc) {own C : String} {T : u_T} {N ci index : Nat} {Ts : List Cond} (hts : ∀ w ∈ Ts, w.before args s = true) (hin : ∀ w ∈ u_ws C T N, w ∈ Ts) (ty0 : Nat → FieldType) (hty : ∀ k, k < N → parseFieldDescriptor (T k).2.2.1 = some (ty0 k)) (hnm : ∀ a, a < N → ∀ b, b < N → a ≠ b → (T a).2.1 ≠ (T b).2.1) (hown : s.vm.findClass own = some m.cls) (hK : va_K G.2.1 cl tys s) (hM : mx_M cl G mem H) (hS0 : va_S (mx_A G) H0 H locs) {k : Nat} {r : Option Nat} {v : Value} (he : mx_p mem r ci k v = some mem') (hc : cl[ci]? = some (C, T, N)) (k' : Nat) (hk : k < N) (hlink : (Cond.fieldLink own index (T k).1 (T k).2.1 (T k).2.2.1).before args s = true) (hfin : (T k).2.2.2 = false) {ty : FieldType} (hd : parseFieldDescriptor (T k).2.2.1 = some ty) (hn : narrow ty v = v) (hfit : fits ty v = true)
    (hdg : decode cc pc = .ok (.putfield index, 3)) (kk : ∀ (H1 : Heap) (locs1 : List Loc), mx_M cl G mem' H1 → va_S (mx_A G) H0 H1 locs1 → W p l e R s m args below meth c H1 locs1 cells slots Q (F0 m (pc + 3) ls rest)) : W p l e R s m args below meth c H locs cells slots Q (F0 m pc ls (v :: va_rf r :: rest)) := by
  obtain ⟨a, fs, h1, hl, rfl⟩ := mx_p_spec he
  obtain ⟨rfl, h2⟩ := mx_O_spec h1
  have hap := va_apart (own := own) hts hin ty0 hty hnm hK hc
  obtain ⟨r', h3, cell, q1, q2, q3, q4⟩ := (hM.2 a _ h2).2
  have hr : r' = (C, T, N) := Option.some.inj (h3.symm.trans hc)
  subst hr
  obtain ⟨hS, hfc, kC, hkC, hkind⟩ := hK.1 ci _ hc
  obtain ⟨cf, kf, fi, f, hi, hsl⟩ := hS k hk
  have hlay := hts _ (hin _ (u_in_lay hk))
  unfold u_lay at hlay
  rw [if_neg (by rw [hfin]; decide)] at hlay
  have hst := (u_facts hfc hkC (u_lays hts hin hk) hi).1
  have h6 := u_store hfc hkC hkind hlay hi hd hn hfit
  refine W.putK hexec hb (f := f) ⟨hown, hlink, ⟨_, _, _, hi⟩, hst⟩ (by rw [q2]; exact h6) q1 q3 (by rw [hsl]; exact k2_hasslot (q4 k hk)) rfl rfl hdg fun H' e1 e2 e3 => ?_
  rw [hsl] at e1 ⊢
  exact kk H' _ (hM.put h2 e2 e3 ⟨_, hc, t_OB.to (V := updV (vp_V fs) k v) ⟨_, e1, q2, q3, t_set q4 hap hk v⟩ (fun j _ => vp_updV_set hl v j)⟩) (hS0.put e2 e3 (hM.2 a _ h2).1)
theorem mx_putN (hexec : p.tables.exec = Jvm.exec) (hb : c.code = cc) {own C host : String} {T : u_T} {N ci index : Nat} {Ts : List Cond} (hts : ∀ w ∈ Ts, w.before args s = true) (hin : ∀ w ∈ u_ws C T N, w ∈ Ts) (ty0 : Nat → FieldType) (hty : ∀ k, k < N → parseFieldDescriptor (T k).2.2.1 = some (ty0 k)) (hnm : ∀ a, a < N → ∀ b, b < N → a ≠ b → (T a).2.1 ≠ (T b).2.1) (hown : s.vm.findClass own = some m.cls) (hK : va_K G.2.1 cl tys s) (hM : mx_M cl G mem H) (hS0 : va_S (mx_A G) H0 H locs) {k : Nat} {r : Option Nat} {v : Value} (he : mx_p mem r ci k v = some mem') (hc : cl[ci]? = some (C, T, N)) (k' : Nat) (hk : k < N) (hlink : (Cond.fieldLinkNest own index (T k).1 (T k).2.1 (T k).2.2.1 host).before args s = true) (hfin : (T k).2.2.2 = false) {ty : FieldType} (hd : parseFieldDescriptor (T k).2.2.1 = some ty) (hn : narrow ty v = v) (hfit : fits ty v = true)
    (hdg : decode cc pc = .ok (.putfield index, 3)) (kk : ∀ (H1 : Heap) (locs1 : List Loc), mx_M cl G mem' H1 → va_S (mx_A G) H0 H1 locs1 → W p l e R s m args below meth c H1 locs1 cells slots Q (F0 m (pc + 3) ls rest)) : W p l e R s m args below meth c H locs cells slots Q (F0 m pc ls (v :: va_rf r :: rest)) := by
  obtain ⟨a, fs, h1, hl, rfl⟩ := mx_p_spec he
  obtain ⟨rfl, h2⟩ := mx_O_spec h1
  have hap := va_apart (own := own) hts hin ty0 hty hnm hK hc
  obtain ⟨r', h3, cell, q1, q2, q3, q4⟩ := (hM.2 a _ h2).2
  have hr : r' = (C, T, N) := Option.some.inj (h3.symm.trans hc)
  subst hr
  obtain ⟨hS, hfc, kC, hkC, hkind⟩ := hK.1 ci _ hc
  obtain ⟨cf, kf, fi, f, hi, hsl⟩ := hS k hk
  have hlay := hts _ (hin _ (u_in_lay hk))
  unfold u_lay at hlay
  rw [if_neg (by rw [hfin]; decide)] at hlay
  have hst := (u_facts hfc hkC (u_lays hts hin hk) hi).1
  have h6 := u_store hfc hkC hkind hlay hi hd hn hfit
  refine va_WputK hexec hb (f := f) hown hlink hi hst (by rw [q2]; exact h6) q1 q3 (by rw [hsl]; exact k2_hasslot (q4 k hk)) rfl rfl hdg fun H' e1 e2 e3 => ?_
  rw [hsl] at e1 ⊢
  exact kk H' _ (hM.put h2 e2 e3 ⟨_, hc, t_OB.to (V := updV (vp_V fs) k v) ⟨_, e1, q2, q3, t_set q4 hap hk v⟩ (fun j _ => vp_updV_set hl v j)⟩) (hS0.put e2 e3 (hM.2 a _ h2).1)
theorem mx_putF (hexec : p.tables.exec = Jvm.exec) (hb : c.code = cc) {own C : String} {T : u_T} {N ci index : Nat} {Ts : List Cond} (hts : ∀ w ∈ Ts, w.before args s = true) (hin : ∀ w ∈ u_ws C T N, w ∈ Ts) (ty0 : Nat → FieldType) (hty : ∀ k, k < N → parseFieldDescriptor (T k).2.2.1 = some (ty0 k)) (hnm : ∀ a, a < N → ∀ b, b < N → a ≠ b → (T a).2.1 ≠ (T b).2.1) (hown : s.vm.findClass own = some m.cls) (hK : va_K G.2.1 cl tys s) (hM : mx_M cl G mem H) (hS0 : va_S (mx_A G) H0 H locs) {k : Nat} {r : Option Nat} {v : Value} (he : mx_p mem r ci k v = some mem') (hc : cl[ci]? = some (C, T, N)) (k' : Nat) (hk : k < N) (hlink : (Cond.fieldLink own index (T k).1 (T k).2.1 (T k).2.2.1).before args s = true) (hfin : (T k).2.2.2 = true) (hin2 : meth.name = "<init>") (hdecl : (T k).1 = own) {ty : FieldType} (hd : parseFieldDescriptor (T k).2.2.1 = some ty) (hn : narrow ty v = v) (hfit : fits ty v = true)
    (hdg : decode cc pc = .ok (.putfield index, 3)) (kk : ∀ (H1 : Heap) (locs1 : List Loc), mx_M cl G mem' H1 → va_S (mx_A G) H0 H1 locs1 → W p l e R s m args below meth c H1 locs1 cells slots Q (F0 m (pc + 3) ls rest)) : W p l e R s m args below meth c H locs cells slots Q (F0 m pc ls (v :: va_rf r :: rest)) := by
  obtain ⟨a, fs, h1, hl, rfl⟩ := mx_p_spec he
  obtain ⟨rfl, h2⟩ := mx_O_spec h1
  have hap := va_apart (own := own) hts hin ty0 hty hnm hK hc
  obtain ⟨r', h3, cell, q1, q2, q3, q4⟩ := (hM.2 a _ h2).2
  have hr : r' = (C, T, N) := Option.some.inj (h3.symm.trans hc)
  subst hr
  obtain ⟨hS, hfc, kC, hkC, hkind⟩ := hK.1 ci _ hc
  obtain ⟨cf, kf, fi, f, hi, hsl⟩ := hS k hk
  have hlay := hts _ (hin _ (u_in_lay hk))
  unfold u_lay at hlay
  rw [if_pos hfin] at hlay
  have hst := (u_facts hfc hkC (u_lays hts hin hk) hi).1
  have hcf : m.cls = cf := by
    obtain ⟨_, _, c', _, _, _, -, -, hf', -, -, -, hown2, -⟩ := Cond.laysFinal_spec hlay
    have e1 : c' = cf := by have := hi.symm.trans hf'; simp at this; exact this.1.symm
    rw [hdecl] at hown2
    rw [← e1]; exact Option.some.inj (hown.symm.trans hown2)
  have h6 := u_fits hfc hkC hkind (Or.inr hlay) hi hd hn hfit
  refine W.putFinK hexec hb hown hlink hi hst hcf hin2 (by rw [q2]; exact h6) q1 q3 (by rw [hsl]; exact k2_hasslot (q4 k hk)) rfl rfl hdg fun H' e1 e2 e3 => ?_
  rw [hsl] at e1 ⊢
  exact kk H' _ (hM.put h2 e2 e3 ⟨_, hc, t_OB.to (V := updV (vp_V fs) k v) ⟨_, e1, q2, q3, t_set q4 hap hk v⟩ (fun j _ => vp_updV_set hl v j)⟩) (hS0.put e2 e3 (hM.2 a _ h2).1)
theorem mx_S.push {A : Nat → Prop} {H1 : Heap} (hS : va_S A H0 H locs) (z : H1.size = H.size + 1) (oq : ∀ q : Nat, q < H.size → H1[q]? = H[q]?) : va_S A H0 H1 locs :=
  ⟨Nat.le_trans hS.1 (by omega), fun x h1 h2 => (oq x (Nat.lt_of_lt_of_le h1 hS.1)).trans (hS.2.1 x h1 h2), hS.2.2⟩
theorem mx_new (hexec : p.tables.exec = Jvm.exec) (hb : c.code = cc) {own C : String} {T : u_T} {N ci index : Nat} {Ts : List Cond} (hts : ∀ w ∈ Ts, w.before args s = true) (hin : ∀ w ∈ u_ws C T N, w ∈ Ts) (ty : Nat → FieldType) (hty : ∀ k, k < N → parseFieldDescriptor (T k).2.2.1 = some (ty k)) (hown : s.vm.findClass own = some m.cls) (hcl : (Cond.classLink own index C).before args s = true) (hinst : (Cond.instantiable C N).before args s = true) (hini : (Cond.initialized C).before args s = true)
    (hK : va_K G.2.1 cl tys s) (hM : mx_M cl G mem H) (hS : va_S (mx_A G) H0 H locs) (hb0 : G.1 ≤ H0.size) (hc : cl[ci]? = some (C, T, N)) {fs : List Value} (hfs : ∀ j, j < N → defaultValue (ty j) = vp_V fs j) (he : some (mx_n mem (.inr (ci, fs))) = some mem') (hdg : decode cc pc = .ok (.new index, 3)) (hcells : cells + 1 ≤ R.cells) (hslots : slots + N ≤ R.slots)
    (kk : ∀ H1 : Heap, mx_M cl G mem' H1 → va_S (mx_A G) H0 H1 locs → W p l e R s m args below meth c H1 locs (cells + 1) (slots + N) Q (F0 m (pc + 3) ls (va_rf (some mem.1) :: rest))) : W p l e R s m args below meth c H locs cells slots Q (F0 m pc ls rest) := by
  cases he
  have hKn := hK.1 ci _ hc
  refine W.newcK hexec hb hown hcl hinst hini rfl hdg hcells hslots hKn.2.1 hM.1 fun H1 kC hkC e1 z1 o1 => ?_
  rw [← hM.1] at e1 z1 o1
  exact kk H1 (hM.push (Nat.le_trans hb0 hS.1) z1 o1 ⟨_, hc, (u_born ty hts hin hKn hkC e1 hty).to hfs⟩) (mx_S.push hS z1 o1)
theorem mx_newq (hexec : p.tables.exec = Jvm.exec) (hb : c.code = cc) {own C : String} {index kd : Nat} (hown : s.vm.findClass own = some m.cls) (hclink : (Cond.classLink own index C).before args s = true) (hover : (Cond.arrayOver (.object C)).before args s = true) (hK : va_K G.2.1 cl tys s) (hM : mx_M cl G mem H) (hS : va_S (mx_A G) H0 H locs) (hb0 : G.1 ≤ H0.size) (ht : tys[kd]? = some (G.2.2 kd, .object C))
    {n : Int32} {N' : Nat} (hn : ¬ n < 0) (hN : n.toNatClampNeg = N') (hbytes : N' * 4 ≤ 536870912) (he : some (mx_n mem (.inl (kd, N', .inr (.inr (.inr (.inr (fun _ => none))))))) = some mem') (hdg : decode cc pc = .ok (.anewarray index, 3)) (hcells : cells + 1 ≤ R.cells) (hslots : slots + N' ≤ R.slots)
    (kk : ∀ H1 : Heap, mx_M cl G mem' H1 → va_S (mx_A G) H0 H1 locs → W p l e R s m args below meth c H1 locs (cells + 1) (slots + N') Q (F0 m (pc + 3) ls (va_rf (some mem.1) :: rest))) : W p l e R s m args below meth c H locs cells slots Q (F0 m pc ls (.int n :: rest)) := by
  cases he
  subst hN
  refine W.anew hexec hb hown hclink hover rfl hdg rfl hn hbytes hcells hslots fun cA kA comp f1 f2 f3 f4 => ?_
  generalize hH1 : H.push ({ cls := cA, slots := Array.replicate n.toNatClampNeg .null, vm := .none } : Cell) = H1
  have z1 : H1.size = H.size + 1 := by rw [← hH1, Array.size_push]
  have e1 : H1[H.size]? = some (arrV cA n.toNatClampNeg (fun _ => .null)) := by rw [← hH1, Array.getElem?_push_size, ← arrV_new]
  have o1 : ∀ q : Nat, q < H.size → H1[q]? = H[q]? := fun q hq => by rw [← hH1, Array.getElem?_push, if_neg (Nat.ne_of_lt hq)]
  obtain ⟨kA', comp', g1, g2, g3, g4⟩ := (hK.2 kd _ ht).2
  have hcA : cA = G.2.2 kd := Option.some.inj (f1.symm.trans g4)
  subst hcA
  have h9 := kk H1 (hM.push (Nat.le_trans hb0 hS.1) z1 o1 (by show H1[H.size]? = some (vp_cell _ _); rw [vp_cell_q]; exact e1)) (mx_S.push hS z1 o1)
  rw [← hM.1] at h9
  exact h9
theorem mx_alen (hexec : p.tables.exec = Jvm.exec) (hb : c.code = cc) (hK : va_K G.2.1 cl tys s) (hM : mx_M cl G mem H) {kd : Nat} {r : Option Nat} {v : Int32} (he : mx_al mem r kd = some v) {ty : FieldType} (ht : tys[kd]? = some (G.2.2 kd, ty)) (hdg : decode cc pc = .ok (.arraylength, 1))
    (kk : W p l e R s m args below meth c H locs cells slots Q (F0 m (pc + 1) ls (.int v :: rest))) : W p l e R s m args below meth c H locs cells slots Q (F0 m pc ls (va_rf r :: rest)) := by
  obtain ⟨a, x, h1, h2⟩ := mx_al_spec he
  obtain ⟨rfl, h3⟩ := mx_R_spec h1
  exact va_alen (D := G.2.1) hexec hb hK (hM.one h3) 0 kd rfl ht h2 hdg kk
theorem mx_aald (hexec : p.tables.exec = Jvm.exec) (hb : c.code = cc) (hK : va_K G.2.1 cl tys s) (hM : mx_M cl G mem H) {kd : Nat} {r x : Option Nat} {i : Int32} (he : mx_ag mem r kd i = some x) {C : String} (ht : tys[kd]? = some (G.2.2 kd, .object C)) (hdg : decode cc pc = .ok (.aaload, 1))
    (kk : W p l e R s m args below meth c H locs cells slots Q (F0 m (pc + 1) ls (va_rf x :: rest))) : W p l e R s m args below meth c H locs cells slots Q (F0 m pc ls (.int i :: va_rf r :: rest)) := by
  obtain ⟨a, n, f, h1, h2, rfl⟩ := mx_ag_spec he
  obtain ⟨rfl, h3⟩ := mx_R_spec h1
  exact va_aldq (D := G.2.1) hexec hb hK (hM.one h3) 0 kd rfl ht h2 hdg kk
theorem mx_aast (hexec : p.tables.exec = Jvm.exec) (hb : c.code = cc) (hK : va_K G.2.1 cl tys s) (hM : mx_M cl G mem H) (hS : va_S (mx_A G) H0 H locs) {kd ci : Nat} {r v : Option Nat} {i : Int32} {u : Unit} (hu : mx_cn mem v ci = some u) (he : mx_as mem r kd i v = some mem') {q : vw_C} (ht : tys[kd]? = some (G.2.2 kd, .object q.1)) (hc : cl[ci]? = some q) (hdg : decode cc pc = .ok (.aastore, 1))
    (kk : ∀ (H1 : Heap) (locs1 : List Loc), mx_M cl G mem' H1 → va_S (mx_A G) H0 H1 locs1 → W p l e R s m args below meth c H1 locs1 cells slots Q (F0 m (pc + 1) ls rest)) : W p l e R s m args below meth c H locs cells slots Q (F0 m pc ls (va_rf v :: .int i :: va_rf r :: rest)) := by
  obtain ⟨a, n, f, h1, hin, rfl⟩ := mx_as_spec he
  obtain ⟨rfl, h3⟩ := mx_R_spec h1
  have hlt : i.toNatClampNeg < n := Nat.not_le.mp fun q => hin (Or.inr q)
  have h0 : ¬ i < 0 := fun q => hin (Or.inl q)
  have hA : H[a]? = some (vp_cell (G.2.2 kd) (n, .inr (.inr (.inr (.inr f))))) := (hM.2 a _ h3).2
  obtain ⟨kA, comp, k1, k2, k3, k4⟩ := (hK.2 kd _ ht).2
  have fin : ∀ (H1 : Heap), H1[a]? = some ((vp_cell (G.2.2 kd) (n, .inr (.inr (.inr (.inr f))))).setSlot i.toNatClampNeg (va_rf v)) → H1.size = H.size → (∀ q : Nat, q ≠ a → H1[q]? = H[q]?) → W p l e R s m args below meth c H1 (locs ++ [⟨a, i.toNatClampNeg⟩]) cells slots Q (F0 m (pc + 1) ls rest) := by
    intro H1 e1 z oq
    refine kk H1 _ (hM.put h3 z oq ?_) (hS.put z oq (hM.2 a _ h3).1)
    show H1[a]? = some (vp_cell _ _)
    rw [e1]
    rw [vp_cell_q, vp_cell_q, arrV_store]
    congr 2
    funext j
    by_cases hj : j = i.toNatClampNeg
    · subst hj
      simp [updV, va_up]
    · simp [updV, va_up, hj]
  cases v with
  | none =>
    exact va_WaastN (C := q.1) hexec hb hA ((hK.2 kd _ ht).1 n (fun j => va_rf (f j))) (fun h => by cases h) (by show ¬ (i < 0 ∨ (arrV _ _ _).slots.size ≤ _); rw [arrV_size]; exact hin) rfl rfl hdg fin
  | some b =>
    have hb1 : ∃ vs : List Value, mem.2 b = some (.inr (ci, vs)) := by
      unfold mx_cn at hu
      dsimp only at hu
      split at hu
      · rename_i w hw
        exact ⟨w.2, (mx_O_spec (a := b) (fs := w.2) (by obtain ⟨w1, w2⟩ := w; have := (mx_O_spec hw).1; cases this; exact hw)).2⟩
      · cases hu
    obtain ⟨vs, hb1⟩ := hb1
    obtain ⟨r', hr', cellV, g1, g2, g3, -⟩ := (hM.2 b _ hb1).2
    have hcls := (hK.1 ci q hc).2
    have hcomp : comp = G.2.1.1 ci := Option.some.inj (k3.symm.trans hcls.1)
    subst hcomp
    obtain ⟨kC, hkC, -⟩ := id hcls.2
    exact W.aast hexec hb hA (fun q h => by cases h) (fun h => by cases h) k1 k2 rfl hkC ⟨h0, by show _ < (arrV _ _ _).slots.size; rw [arrV_size]; exact hlt⟩ g1 (fun q h => by rw [g3] at h; cases h) (by rw [g2]; exact hkC) (by rw [g2]; exact va_assign hcls) rfl rfl hdg fin
end MXS
end
section
/-! arrays of ints, booleans and longs -/
def mx_agi (mem : mx_Mem) (r : Option Nat) (kd : Nat) (i : Int32) : Option Int32 := match mx_R mem r kd with
  | some (_, (n, .inl f)) => if 0 ≤ i ∧ i.toNatClampNeg < n then some (f i.toNatClampNeg) else none
  | _ => none
def mx_agl (mem : mx_Mem) (r : Option Nat) (kd : Nat) (i : Int32) : Option Int64 := match mx_R mem r kd with
  | some (_, (n, .inr (.inl f))) => if 0 ≤ i ∧ i.toNatClampNeg < n then some (f i.toNatClampNeg) else none
  | _ => none
def mx_asi (mem : mx_Mem) (r : Option Nat) (kd : Nat) (i : Int32) (x : Int32) : Option mx_Mem := match mx_R mem r kd with
  | some (a, (n, .inl f)) => if 0 ≤ i ∧ i.toNatClampNeg < n then some (mem.1, va_up mem.2 a (some (.inl (kd, n, .inl (upd f i.toNatClampNeg x))))) else none
  | _ => none
def mx_asl (mem : mx_Mem) (r : Option Nat) (kd : Nat) (i : Int32) (x : Int64) : Option mx_Mem := match mx_R mem r kd with
  | some (a, (n, .inr (.inl f))) => if 0 ≤ i ∧ i.toNatClampNeg < n then some (mem.1, va_up mem.2 a (some (.inl (kd, n, .inr (.inl (vp_updL f i.toNatClampNeg x)))))) else none
  | _ => none
theorem mx_agi_spec {mem : mx_Mem} {r : Option Nat} {kd : Nat} {i v : Int32} (h : mx_agi mem r kd i = some v) : ∃ (a n : Nat) (f : Nat → Int32), mx_R mem r kd = some (a, (n, .inl f)) ∧ vp_in i n ∧ v = f i.toNatClampNeg := by
  unfold mx_agi at h
  split at h
  · rename_i a n f hq
    split at h
    · rename_i hi
      cases h
      exact ⟨a, n, f, hq, mx_in hi, rfl⟩
    · cases h
  · cases h
theorem mx_agl_spec {mem : mx_Mem} {r : Option Nat} {kd : Nat} {i : Int32} {v : Int64} (h : mx_agl mem r kd i = some v) : ∃ (a n : Nat) (f : Nat → Int64), mx_R mem r kd = some (a, (n, .inr (.inl f))) ∧ vp_in i n ∧ v = f i.toNatClampNeg := by
  unfold mx_agl at h
  split at h
  · rename_i a n f hq
    split at h
    · rename_i hi
      cases h
      exact ⟨a, n, f, hq, mx_in hi, rfl⟩
    · cases h
  · cases h
theorem mx_asi_spec {mem mem' : mx_Mem} {r : Option Nat} {kd : Nat} {i x : Int32} (h : mx_asi mem r kd i x = some mem') : ∃ (a n : Nat) (f : Nat → Int32), mx_R mem r kd = some (a, (n, .inl f)) ∧ vp_in i n ∧ mem' = (mem.1, va_up mem.2 a (some (.inl (kd, n, .inl (upd f i.toNatClampNeg x))))) := by
  unfold mx_asi at h
  split at h
  · rename_i a n f hq
    split at h
    · rename_i hi
      cases h
      exact ⟨a, n, f, hq, mx_in hi, rfl⟩
    · cases h
  · cases h
theorem mx_asl_spec {mem mem' : mx_Mem} {r : Option Nat} {kd : Nat} {i : Int32} {x : Int64} (h : mx_asl mem r kd i x = some mem') : ∃ (a n : Nat) (f : Nat → Int64), mx_R mem r kd = some (a, (n, .inr (.inl f))) ∧ vp_in i n ∧ mem' = (mem.1, va_up mem.2 a (some (.inl (kd, n, .inr (.inl (vp_updL f i.toNatClampNeg x)))))) := by
  unfold mx_asl at h
  split at h
  · rename_i a n f hq
    split at h
    · rename_i hi
      cases h
      exact ⟨a, n, f, hq, mx_in hi, rfl⟩
    · cases h
  · cases h
section MXR
variable {p : Program} {l : Launch} {e : Env} {R : Room} {s : State} {m : MethodId} {args : Array Value} {below : List Frame} {meth : Method} {c : Code} {H : Heap} {locs : List Loc} {cells slots : Nat} {Q : State → Prop}
variable {cc : ByteArray} {pc : Nat} {ls : Array Slot} {rest : List Value} {cl : List vw_C} {G : mx_G} {mem mem' : mx_Mem} {H0 : Heap} {tys : List (ClassId × FieldType)}
theorem mx_iald (hexec : p.tables.exec = Jvm.exec) (hb : c.code = cc) (hK : va_K G.2.1 cl tys s) (hM : mx_M cl G mem H) {kd : Nat} {r : Option Nat} {i x : Int32} (he : mx_agi mem r kd i = some x) (ht : tys[kd]? = some (G.2.2 kd, .int)) (hdg : decode cc pc = .ok (.iaload, 1))
    (kk : W p l e R s m args below meth c H locs cells slots Q (F0 m (pc + 1) ls (.int x :: rest))) : W p l e R s m args below meth c H locs cells slots Q (F0 m pc ls (.int i :: va_rf r :: rest)) := by
  obtain ⟨a, n, f, h1, h2, rfl⟩ := mx_agi_spec he
  obtain ⟨rfl, h3⟩ := mx_R_spec h1
  exact va_iald (D := G.2.1) hexec hb hK (hM.one h3) 0 kd rfl ht h2 hdg kk
theorem mx_bald (hexec : p.tables.exec = Jvm.exec) (hb : c.code = cc) (hK : va_K G.2.1 cl tys s) (hM : mx_M cl G mem H) {kd : Nat} {r : Option Nat} {i x : Int32} (he : mx_agi mem r kd i = some x) (ht : tys[kd]? = some (G.2.2 kd, .boolean)) (hdg : decode cc pc = .ok (.baload, 1))
    (kk : W p l e R s m args below meth c H locs cells slots Q (F0 m (pc + 1) ls (.int x :: rest))) : W p l e R s m args below meth c H locs cells slots Q (F0 m pc ls (.int i :: va_rf r :: rest)) := by
  obtain ⟨a, n, f, h1, h2, rfl⟩ := mx_agi_spec he
  obtain ⟨rfl, h3⟩ := mx_R_spec h1
  exact va_zald (D := G.2.1) hexec hb hK (hM.one h3) 0 kd rfl ht h2 hdg kk
theorem mx_lald (hexec : p.tables.exec = Jvm.exec) (hb : c.code = cc) (hK : va_K G.2.1 cl tys s) (hM : mx_M cl G mem H) {kd : Nat} {r : Option Nat} {i : Int32} {x : Int64} (he : mx_agl mem r kd i = some x) (ht : tys[kd]? = some (G.2.2 kd, .long)) (hdg : decode cc pc = .ok (.laload, 1))
    (kk : W p l e R s m args below meth c H locs cells slots Q (F0 m (pc + 1) ls (.long x :: rest))) : W p l e R s m args below meth c H locs cells slots Q (F0 m pc ls (.int i :: va_rf r :: rest)) := by
  obtain ⟨a, n, f, h1, h2, rfl⟩ := mx_agl_spec he
  obtain ⟨rfl, h3⟩ := mx_R_spec h1
  exact va_lald (D := G.2.1) hexec hb hK (hM.one h3) 0 kd rfl ht h2 hdg kk
theorem mx_iast (hexec : p.tables.exec = Jvm.exec) (hb : c.code = cc) (hK : va_K G.2.1 cl tys s) (hM : mx_M cl G mem H) (hS : va_S (mx_A G) H0 H locs) {kd : Nat} {r : Option Nat} {i x : Int32} (he : mx_asi mem r kd i x = some mem') (ht : tys[kd]? = some (G.2.2 kd, .int)) (hdg : decode cc pc = .ok (.iastore, 1))
    (kk : ∀ (H1 : Heap) (locs1 : List Loc), mx_M cl G mem' H1 → va_S (mx_A G) H0 H1 locs1 → W p l e R s m args below meth c H1 locs1 cells slots Q (F0 m (pc + 1) ls rest)) : W p l e R s m args below meth c H locs cells slots Q (F0 m pc ls (.int x :: .int i :: va_rf r :: rest)) := by
  obtain ⟨a, n, f, h1, hin, rfl⟩ := mx_asi_spec he
  obtain ⟨rfl, h3⟩ := mx_R_spec h1
  have hA : H[a]? = some (vp_cell (G.2.2 kd) (n, .inl f)) := (hM.2 a _ h3).2
  refine W.iast hexec hb hA ((hK.2 kd _ ht).1 n (fun j => .int (f j))) (fun q => by cases q) (by show ¬ (i < 0 ∨ (arrV _ _ _).slots.size ≤ _); rw [arrV_size]; exact hin) rfl rfl hdg fun H1 e z oq => ?_
  refine kk H1 _ (hM.put h3 z oq ?_) (hS.put z oq (hM.2 a _ h3).1)
  show H1[a]? = some (vp_cell _ _)
  rw [e, vp_cell_i, vp_cell_i, arrV_store]
  congr 2
  funext q
  by_cases hq : q = i.toNatClampNeg
  · subst hq
    simp [updV, upd]
  · simp [updV, upd, hq]
theorem mx_bast (hexec : p.tables.exec = Jvm.exec) (hb : c.code = cc) (hK : va_K G.2.1 cl tys s) (hM : mx_M cl G mem H) (hS : va_S (mx_A G) H0 H locs) {kd : Nat} {r : Option Nat} {i x : Int32} (hz : narrow .boolean (.int x) = .int x) (he : mx_asi mem r kd i x = some mem') (ht : tys[kd]? = some (G.2.2 kd, .boolean)) (hdg : decode cc pc = .ok (.bastore, 1))
    (kk : ∀ (H1 : Heap) (locs1 : List Loc), mx_M cl G mem' H1 → va_S (mx_A G) H0 H1 locs1 → W p l e R s m args below meth c H1 locs1 cells slots Q (F0 m (pc + 1) ls rest)) : W p l e R s m args below meth c H locs cells slots Q (F0 m pc ls (.int x :: .int i :: va_rf r :: rest)) := by
  obtain ⟨a, n, f, h1, hin, rfl⟩ := mx_asi_spec he
  obtain ⟨rfl, h3⟩ := mx_R_spec h1
  have hA : H[a]? = some (vp_cell (G.2.2 kd) (n, .inl f)) := (hM.2 a _ h3).2
  refine W.zast hexec hb hA ((hK.2 kd _ ht).1 n (fun j => .int (f j))) (fun q => by cases q) (by show ¬ (i < 0 ∨ (arrV _ _ _).slots.size ≤ _); rw [arrV_size]; exact hin) rfl rfl hdg fun H1 e z oq => ?_
  refine kk H1 _ (hM.put h3 z oq ?_) (hS.put z oq (hM.2 a _ h3).1)
  show H1[a]? = some (vp_cell _ _)
  rw [e, hz, vp_cell_i, vp_cell_i, arrV_store]
  congr 2
  funext q
  by_cases hq : q = i.toNatClampNeg
  · subst hq
    simp [updV, upd]
  · simp [updV, upd, hq]
theorem mx_last (hexec : p.tables.exec = Jvm.exec) (hb : c.code = cc) (hK : va_K G.2.1 cl tys s) (hM : mx_M cl G mem H) (hS : va_S (mx_A G) H0 H locs) {kd : Nat} {r : Option Nat} {i : Int32} {x : Int64} (he : mx_asl mem r kd i x = some mem') (ht : tys[kd]? = some (G.2.2 kd, .long)) (hdg : decode cc pc = .ok (.lastore, 1))
    (kk : ∀ (H1 : Heap) (locs1 : List Loc), mx_M cl G mem' H1 → va_S (mx_A G) H0 H1 locs1 → W p l e R s m args below meth c H1 locs1 cells slots Q (F0 m (pc + 1) ls rest)) : W p l e R s m args below meth c H locs cells slots Q (F0 m pc ls (.long x :: .int i :: va_rf r :: rest)) := by
  obtain ⟨a, n, f, h1, hin, rfl⟩ := mx_asl_spec he
  obtain ⟨rfl, h3⟩ := mx_R_spec h1
  have hA : H[a]? = some (vp_cell (G.2.2 kd) (n, .inr (.inl f))) := (hM.2 a _ h3).2
  refine W.last hexec hb hA ((hK.2 kd _ ht).1 n (fun j => .long (f j))) (fun q => by cases q) (by show ¬ (i < 0 ∨ (arrV _ _ _).slots.size ≤ _); rw [arrV_size]; exact hin) rfl rfl hdg fun H1 e z oq => ?_
  refine kk H1 _ (hM.put h3 z oq ?_) (hS.put z oq (hM.2 a _ h3).1)
  show H1[a]? = some (vp_cell _ _)
  rw [e, vp_cell_l, vp_cell_l, arrV_store]
  congr 2
  funext q
  by_cases hq : q = i.toNatClampNeg
  · subst hq
    simp [updV, vp_updL]
  · simp [updV, vp_updL, hq]
theorem mx_newa (hexec : p.tables.exec = Jvm.exec) (hb : c.code = cc) {kd : Nat} {atype : ArrayType} (harr : (Cond.arrayClass (newarray.typeOf atype)).before args s = true) {ty : FieldType} (hty : newarray.typeOf atype = ty) (hK : va_K G.2.1 cl tys s) (hM : mx_M cl G mem H) (hS : va_S (mx_A G) H0 H locs) (hb0 : G.1 ≤ H0.size) (ht : tys[kd]? = some (G.2.2 kd, ty)) (hra : ∀ cA : ClassId, va_RA s cA ty → s.vm.findClass ("[" ++ ty.toString) = some cA)
    {n : Int32} {N' : Nat} {a0 : vp_A} (ha : ∀ cA : ClassId, vp_cell cA a0 = arrV cA N' (fun _ => defaultValue ty)) (hn : ¬ n < 0) (hN : n.toNatClampNeg = N') (hbytes : N' * componentBytes ty ≤ 536870912) (he : some (mx_n mem (.inl (kd, a0))) = some mem') (hdg : decode cc pc = .ok (.newarray atype, 2)) (hcells : cells + 1 ≤ R.cells) (hslots : slots + N' ≤ R.slots)
    (kk : ∀ H1 : Heap, mx_M cl G mem' H1 → va_S (mx_A G) H0 H1 locs → W p l e R s m args below meth c H1 locs (cells + 1) (slots + N') Q (F0 m (pc + 2) ls (va_rf (some mem.1) :: rest))) : W p l e R s m args below meth c H locs cells slots Q (F0 m pc ls (.int n :: rest)) := by
  cases he
  subst hty
  refine va_newaK hexec hb harr rfl hdg rfl hn hN hbytes hcells hslots hM.1 fun H1 cA e1 z1 o1 hAr hNm => ?_
  rw [← hM.1] at e1 z1 o1
  have hcA : cA = G.2.2 kd := Option.some.inj (hNm.symm.trans (hra _ (hK.2 kd _ ht).2))
  subst hcA
  exact kk H1 (hM.push (Nat.le_trans hb0 hS.1) z1 o1 (by show H1[H.size]? = some (vp_cell _ _); rw [ha]; exact e1)) (mx_S.push hS z1 o1)
end MXR
end
section
def gq_tys (G : mx_G) : List (ClassId × FieldType) := [(G.2.2 0, (.object "LateRoutes$Line")), (G.2.2 1, (.object "LateRoutes$Load")), (G.2.2 2, (.object "LateRoutes$Option")), (G.2.2 3, .int), (G.2.2 4, .long), (G.2.2 5, .boolean)]
def gq_tbl : List Cond := lw_tbl.filter goodWord
theorem gq_m {w : Cond} (i : Nat) (h : tables_1[i]? = some w) (hg : goodWord w = true) : w ∈ gq_tbl := List.mem_filter.mpr ⟨List.mem_append_right _ (List.mem_of_getElem? h), hg⟩
theorem gq_s {w : Cond} (i : Nat) (h : (k2_sels lw_privs)[i]? = some w) (hg : goodWord w = true) : w ∈ gq_tbl := List.mem_filter.mpr ⟨List.mem_append_left _ (List.mem_of_getElem? h), hg⟩
set_option maxRecDepth 20000 in
theorem wd_0 : Cond.methodLink R_LR 1 objectInit ∈ gq_tbl := gq_m 12 (by decide +kernel) rfl
set_option maxRecDepth 20000 in
theorem wd_1 : Cond.instanceMethod objectInit ∈ gq_tbl := gq_m 13 (by decide +kernel) rfl
set_option maxRecDepth 20000 in
theorem wd_2 : Cond.code objectInit ⟨#[0xb1]⟩ 1 none ∈ gq_tbl := gq_m 14 rfl rfl
set_option maxRecDepth 20000 in
theorem wd_3 : Cond.classLink R_LR 9 R_Li ∈ gq_tbl := gq_m 15 (by decide +kernel) rfl
set_option maxRecDepth 20000 in
theorem wd_4 : Cond.fieldLink R_LR 11 "LateRoutes" "lines" "[LLateRoutes$Line;" ∈ gq_tbl := gq_m 19 (by decide +kernel) rfl
set_option maxRecDepth 20000 in
theorem wd_5 : Cond.classLink R_LR 15 R_Lo ∈ gq_tbl := gq_m 17 (by decide +kernel) rfl
set_option maxRecDepth 20000 in
theorem wd_6 : Cond.fieldLink R_LR 17 "LateRoutes" "loads" "[LLateRoutes$Load;" ∈ gq_tbl := gq_m 21 (by decide +kernel) rfl
set_option maxRecDepth 20000 in
theorem wd_7 : Cond.fieldLink R_LR 21 "LateRoutes" "loadsByLeaving" "[LLateRoutes$Load;" ∈ gq_tbl := gq_m 22 (by decide +kernel) rfl
set_option maxRecDepth 20000 in
theorem wd_8 : Cond.fieldLink R_LR 24 "LateRoutes" "lineCount" "I" ∈ gq_tbl := gq_m 20 (by decide +kernel) rfl
set_option maxRecDepth 20000 in
theorem wd_9 : Cond.fieldLink R_LR 28 "LateRoutes" "loadCount" "I" ∈ gq_tbl := gq_m 23 (by decide +kernel) rfl
set_option maxRecDepth 20000 in
theorem wd_10 : Cond.methodLink R_Mo 1 objectInit ∈ gq_tbl := gq_m 347 (by decide +kernel) rfl
set_option maxRecDepth 20000 in
theorem wd_11 : Cond.arrayClass .int ∈ gq_tbl := gq_m 418 (by decide +kernel) rfl
set_option maxRecDepth 20000 in
theorem wd_12 : Cond.fieldLink R_Mo 7 "LateRoutesModel" "froms" "[I" ∈ gq_tbl := gq_m 350 (by decide +kernel) rfl
set_option maxRecDepth 20000 in
theorem wd_13 : Cond.fieldLink R_Mo 13 "LateRoutesModel" "tos" "[I" ∈ gq_tbl := gq_m 351 (by decide +kernel) rfl
set_option maxRecDepth 20000 in
theorem wd_14 : Cond.arrayClass .long ∈ gq_tbl := gq_m 419 (by decide +kernel) rfl
set_option maxRecDepth 20000 in
theorem wd_15 : Cond.fieldLink R_Mo 16 "LateRoutesModel" "leaves" "[J" ∈ gq_tbl := gq_m 352 (by decide +kernel) rfl
set_option maxRecDepth 20000 in
theorem wd_16 : Cond.fieldLink R_Mo 20 "LateRoutesModel" "arrives" "[J" ∈ gq_tbl := gq_m 353 (by decide +kernel) rfl
set_option maxRecDepth 20000 in
theorem wd_17 : Cond.fieldLink R_Mo 23 "LateRoutesModel" "delays" "[J" ∈ gq_tbl := gq_m 354 (by decide +kernel) rfl
set_option maxRecDepth 20000 in
theorem wd_18 : Cond.fieldLink R_Mo 26 "LateRoutesModel" "mosts" "[J" ∈ gq_tbl := gq_m 355 (by decide +kernel) rfl
set_option maxRecDepth 20000 in
theorem wd_19 : Cond.fieldLink R_Mo 29 "LateRoutesModel" "departed" "[J" ∈ gq_tbl := gq_m 356 (by decide +kernel) rfl
set_option maxRecDepth 20000 in
theorem wd_20 : Cond.fieldLink R_Mo 32 "LateRoutesModel" "firsts" "[I" ∈ gq_tbl := gq_m 358 (by decide +kernel) rfl
set_option maxRecDepth 20000 in
theorem wd_21 : Cond.fieldLink R_Mo 35 "LateRoutesModel" "goals" "[I" ∈ gq_tbl := gq_m 359 (by decide +kernel) rfl
set_option maxRecDepth 20000 in
theorem wd_22 : Cond.fieldLink R_Mo 38 "LateRoutesModel" "dues" "[J" ∈ gq_tbl := gq_m 360 (by decide +kernel) rfl
set_option maxRecDepth 20000 in
theorem wd_23 : Cond.fieldLink R_Mo 41 "LateRoutesModel" "weights" "[I" ∈ gq_tbl := gq_m 361 (by decide +kernel) rfl
set_option maxRecDepth 20000 in
theorem wd_24 : Cond.fieldLink R_Mo 44 "LateRoutesModel" "options" "[I" ∈ gq_tbl := gq_m 362 (by decide +kernel) rfl
set_option maxRecDepth 20000 in
theorem wd_25 : Cond.fieldLink R_Mo 47 "LateRoutesModel" "chosen" "[I" ∈ gq_tbl := gq_m 363 (by decide +kernel) rfl
set_option maxRecDepth 20000 in
theorem wd_26 : Cond.fieldLink R_Mo 50 "LateRoutesModel" "kinds" "[I" ∈ gq_tbl := gq_m 364 (by decide +kernel) rfl
set_option maxRecDepth 20000 in
theorem wd_27 : Cond.fieldLink R_Mo 53 "LateRoutesModel" "by" "[I" ∈ gq_tbl := gq_m 365 (by decide +kernel) rfl
set_option maxRecDepth 20000 in
theorem wd_28 : Cond.fieldLink R_Mo 56 "LateRoutesModel" "costs" "[J" ∈ gq_tbl := gq_m 366 (by decide +kernel) rfl
set_option maxRecDepth 20000 in
theorem wd_29 : Cond.fieldLink R_Mo 59 "LateRoutesModel" "came" "[J" ∈ gq_tbl := gq_m 367 (by decide +kernel) rfl
set_option maxRecDepth 20000 in
theorem wd_30 : Cond.arrayClass .boolean ∈ gq_tbl := gq_m 420 (by decide +kernel) rfl
set_option maxRecDepth 20000 in
theorem wd_31 : Cond.fieldLink R_Mo 62 "LateRoutesModel" "left" "[Z" ∈ gq_tbl := gq_m 368 (by decide +kernel) rfl
set_option maxRecDepth 20000 in
theorem wd_32 : Cond.fieldLink R_Mo 66 "LateRoutesModel" "best" "[I" ∈ gq_tbl := gq_m 369 (by decide +kernel) rfl
set_option maxRecDepth 20000 in
theorem wd_33 : Cond.fieldLink R_Mo 69 "LateRoutesModel" "before" "[J" ∈ gq_tbl := gq_m 370 (by decide +kernel) rfl
set_option maxRecDepth 20000 in
theorem wd_34 : Cond.constantLong R_LR 150 9 ∈ gq_tbl := gq_m 42 (by decide +kernel) rfl
set_option maxRecDepth 20000 in
theorem wd_35 : Cond.code y_LR_isWithin b_LR_isWithin 6 (some .boolean) ∈ gq_tbl := gq_m 45 rfl rfl
set_option maxRecDepth 20000 in
theorem wd_36 : Cond.methodLink R_LR 37 y_LR_isWithin ∈ gq_tbl := gq_m 43 (by decide +kernel) rfl
set_option maxRecDepth 20000 in
theorem wd_37 : Cond.static y_LR_isWithin ∈ gq_tbl := gq_m 44 (by decide +kernel) rfl
set_option maxRecDepth 20000 in
theorem wd_38 : Cond.initialized R_LR ∈ gq_tbl := gq_m 1 (by decide +kernel) rfl
set_option maxRecDepth 20000 in
theorem wd_39 : Cond.methodLink R_Li 1 objectInit ∈ gq_tbl := gq_m 51 (by decide +kernel) rfl
set_option maxRecDepth 20000 in
theorem wd_40 : Cond.fieldLink R_Li 7 "LateRoutes$Line" "number" "I" ∈ gq_tbl := gq_m 52 (by decide +kernel) rfl
set_option maxRecDepth 20000 in
theorem wd_41 : Cond.fieldLink R_Li 13 "LateRoutes$Line" "from" "I" ∈ gq_tbl := gq_m 54 (by decide +kernel) rfl
set_option maxRecDepth 20000 in
theorem wd_42 : Cond.fieldLink R_Li 16 "LateRoutes$Line" "to" "I" ∈ gq_tbl := gq_m 56 (by decide +kernel) rfl
set_option maxRecDepth 20000 in
theorem wd_43 : Cond.fieldLink R_Li 19 "LateRoutes$Line" "leaves" "J" ∈ gq_tbl := gq_m 58 (by decide +kernel) rfl
set_option maxRecDepth 20000 in
theorem wd_44 : Cond.fieldLink R_Li 23 "LateRoutes$Line" "arrives" "J" ∈ gq_tbl := gq_m 61 (by decide +kernel) rfl
set_option maxRecDepth 20000 in
theorem wd_45 : Cond.fieldLink R_Li 26 "LateRoutes$Line" "delay" "J" ∈ gq_tbl := gq_m 62 (by decide +kernel) rfl
set_option maxRecDepth 20000 in
theorem wd_46 : Cond.fieldLink R_Li 29 "LateRoutes$Line" "most" "J" ∈ gq_tbl := gq_m 64 (by decide +kernel) rfl
set_option maxRecDepth 20000 in
theorem wd_47 : Cond.fieldLink R_Li 32 "LateRoutes$Line" "departsAt" "J" ∈ gq_tbl := gq_m 66 (by decide +kernel) rfl
set_option maxRecDepth 20000 in
theorem wd_48 : Cond.fieldLink R_Lo 35 "LateRoutes$Load" "picked" "I" ∈ gq_tbl := gq_m 152 (by decide +kernel) rfl
set_option maxRecDepth 20000 in
theorem wd_49 : Cond.fieldLink R_Lo 32 "LateRoutes$Load" "optionCount" "I" ∈ gq_tbl := gq_m 151 (by decide +kernel) rfl
set_option maxRecDepth 20000 in
theorem wd_50 : Cond.fieldLink R_Lo 11 "LateRoutes$Load" "options" "[LLateRoutes$Option;" ∈ gq_tbl := gq_m 150 (by decide +kernel) rfl
set_option maxRecDepth 20000 in
theorem wd_51 : Cond.methodLink R_Li 35 Lib.MathLoose.max_long.x ∈ gq_tbl := gq_m 112 (by decide +kernel) rfl
set_option maxRecDepth 20000 in
theorem wd_52 : Cond.static Lib.MathLoose.max_long.x ∈ gq_tbl := gq_m 113 (by decide +kernel) rfl
set_option maxRecDepth 20000 in
theorem wd_53 : Cond.initialized "java/lang/Math" ∈ gq_tbl := gq_m 4 (by decide +kernel) rfl
set_option maxRecDepth 20000 in
theorem wd_54 : Cond.code Lib.MathLoose.max_long.x Lib.MathLoose.max_long.code 4 (some .long) ∈ gq_tbl := gq_m 114 rfl rfl
set_option maxRecDepth 20000 in
theorem wd_55 : Cond.fieldLink R_Lo 17 "LateRoutes$Load" "first" "LLateRoutes$Line;" ∈ gq_tbl := gq_m 145 (by decide +kernel) rfl
set_option maxRecDepth 20000 in
theorem wd_56 : Cond.code y_Li_arrivesAt b_Li_arrivesAt 1 (some .long) ∈ gq_tbl := gq_m 101 rfl rfl
set_option maxRecDepth 20000 in
theorem wd_57 : Cond.methodLink R_Lo 60 y_Li_arrivesAt ∈ gq_tbl := gq_m 98 (by decide +kernel) rfl
set_option maxRecDepth 20000 in
theorem wd_58 : Cond.instanceMethod y_Li_arrivesAt ∈ gq_tbl := gq_m 99 (by decide +kernel) rfl
set_option maxRecDepth 20000 in
theorem wd_59 : Cond.selects R_Li y_Li_arrivesAt y_Li_arrivesAt ∈ gq_tbl := gq_m 100 (by decide +kernel) rfl
set_option maxRecDepth 20000 in
theorem wd_60 : Cond.initialized R_Li ∈ gq_tbl := gq_m 3 (by decide +kernel) rfl
set_option maxRecDepth 20000 in
theorem wd_61 : Cond.fieldLink R_Lo 64 "LateRoutes$Load" "coming" "J" ∈ gq_tbl := gq_m 155 (by decide +kernel) rfl
set_option maxRecDepth 20000 in
theorem wd_62 : Cond.code y_Lo_pickedOption b_Lo_pickedOption 1 (some (.object "LateRoutes$Option")) ∈ gq_tbl := gq_m 106 rfl rfl
set_option maxRecDepth 20000 in
theorem wd_63 : Cond.methodLink R_Lo 67 y_Lo_pickedOption ∈ gq_tbl := gq_m 102 (by decide +kernel) rfl
set_option maxRecDepth 20000 in
theorem wd_64 : Cond.instanceMethod y_Lo_pickedOption ∈ gq_tbl := gq_m 104 (by decide +kernel) rfl
set_option maxRecDepth 20000 in
theorem wd_65 : Cond.selects R_Lo y_Lo_pickedOption y_Lo_pickedOption ∈ gq_tbl := gq_s 1 (by decide +kernel) rfl
set_option maxRecDepth 20000 in
theorem wd_66 : Cond.initialized R_Lo ∈ gq_tbl := gq_m 5 (by decide +kernel) rfl
set_option maxRecDepth 20000 in
theorem wd_67 : Cond.constantLong R_Lo 74 10 ∈ gq_tbl := gq_m 107 (by decide +kernel) rfl
set_option maxRecDepth 20000 in
theorem wd_68 : Cond.code y_Li_holdUntil b_Li_holdUntil 3 none ∈ gq_tbl := gq_m 111 rfl rfl
set_option maxRecDepth 20000 in
theorem wd_69 : Cond.methodLink R_Lo 76 y_Li_holdUntil ∈ gq_tbl := gq_m 108 (by decide +kernel) rfl
set_option maxRecDepth 20000 in
theorem wd_70 : Cond.instanceMethod y_Li_holdUntil ∈ gq_tbl := gq_m 109 (by decide +kernel) rfl
set_option maxRecDepth 20000 in
theorem wd_71 : Cond.selects R_Li y_Li_holdUntil y_Li_holdUntil ∈ gq_tbl := gq_m 110 (by decide +kernel) rfl
set_option maxRecDepth 20000 in
theorem wd_72 : Cond.fieldLink R_Lo 21 "LateRoutes$Load" "to" "I" ∈ gq_tbl := gq_m 147 (by decide +kernel) rfl
set_option maxRecDepth 20000 in
theorem wd_73 : Cond.fieldLink R_Lo 80 "LateRoutes$Load" "isLeft" "Z" ∈ gq_tbl := gq_m 160 (by decide +kernel) rfl
set_option maxRecDepth 20000 in
theorem wd_74 : Cond.code y_Lo_isDirect b_Lo_isDirect 1 (some .boolean) ∈ gq_tbl := gq_m 122 rfl rfl
set_option maxRecDepth 20000 in
theorem wd_75 : Cond.methodLink R_Lo 84 y_Lo_isDirect ∈ gq_tbl := gq_m 119 (by decide +kernel) rfl
set_option maxRecDepth 20000 in
theorem wd_76 : Cond.instanceMethod y_Lo_isDirect ∈ gq_tbl := gq_m 120 (by decide +kernel) rfl
set_option maxRecDepth 20000 in
theorem wd_77 : Cond.selects R_Lo y_Lo_isDirect y_Lo_isDirect ∈ gq_tbl := gq_m 121 (by decide +kernel) rfl
set_option maxRecDepth 20000 in
theorem wd_78 : Cond.constantLong R_Lo 95 1440 ∈ gq_tbl := gq_m 128 (by decide +kernel) rfl
set_option maxRecDepth 20000 in
theorem wd_79 : Cond.fieldLink R_Lo 87 "LateRoutes$Load" "arrivesAt" "J" ∈ gq_tbl := gq_m 157 (by decide +kernel) rfl
set_option maxRecDepth 20000 in
theorem wd_80 : Cond.code y_Lo_catches b_Lo_catches 2 (some .boolean) ∈ gq_tbl := gq_m 127 rfl rfl
set_option maxRecDepth 20000 in
theorem wd_81 : Cond.methodLink R_Lo 91 y_Lo_catches ∈ gq_tbl := gq_m 124 (by decide +kernel) rfl
set_option maxRecDepth 20000 in
theorem wd_82 : Cond.instanceMethod y_Lo_catches ∈ gq_tbl := gq_m 126 (by decide +kernel) rfl
set_option maxRecDepth 20000 in
theorem wd_83 : Cond.selects R_Lo y_Lo_catches y_Lo_catches ∈ gq_tbl := gq_s 2 (by decide +kernel) rfl
set_option maxRecDepth 20000 in
theorem wd_84 : Cond.constantLong R_Lo 89 60 ∈ gq_tbl := gq_m 123 (by decide +kernel) rfl
set_option maxRecDepth 20000 in
theorem wd_85 : Cond.code y_Li_forgetWaiting b_Li_forgetWaiting 1 none ∈ gq_tbl := gq_m 93 rfl rfl
set_option maxRecDepth 20000 in
theorem wd_86 : Cond.methodLink R_LR 159 y_Li_forgetWaiting ∈ gq_tbl := gq_m 90 (by decide +kernel) rfl
set_option maxRecDepth 20000 in
theorem wd_87 : Cond.instanceMethod y_Li_forgetWaiting ∈ gq_tbl := gq_m 91 (by decide +kernel) rfl
set_option maxRecDepth 20000 in
theorem wd_88 : Cond.selects R_Li y_Li_forgetWaiting y_Li_forgetWaiting ∈ gq_tbl := gq_m 92 (by decide +kernel) rfl
set_option maxRecDepth 20000 in
theorem wd_89 : Cond.code y_Lo_comeAndHold b_Lo_comeAndHold 2 none ∈ gq_tbl := gq_m 97 rfl rfl
set_option maxRecDepth 20000 in
theorem wd_90 : Cond.methodLink R_LR 162 y_Lo_comeAndHold ∈ gq_tbl := gq_m 94 (by decide +kernel) rfl
set_option maxRecDepth 20000 in
theorem wd_91 : Cond.instanceMethod y_Lo_comeAndHold ∈ gq_tbl := gq_m 95 (by decide +kernel) rfl
set_option maxRecDepth 20000 in
theorem wd_92 : Cond.selects R_Lo y_Lo_comeAndHold y_Lo_comeAndHold ∈ gq_tbl := gq_m 96 (by decide +kernel) rfl
set_option maxRecDepth 20000 in
theorem wd_93 : Cond.code y_Lo_arrive b_Lo_arrive 2 none ∈ gq_tbl := gq_m 118 rfl rfl
set_option maxRecDepth 20000 in
theorem wd_94 : Cond.methodLink R_LR 165 y_Lo_arrive ∈ gq_tbl := gq_m 115 (by decide +kernel) rfl
set_option maxRecDepth 20000 in
theorem wd_95 : Cond.instanceMethod y_Lo_arrive ∈ gq_tbl := gq_m 116 (by decide +kernel) rfl
set_option maxRecDepth 20000 in
theorem wd_96 : Cond.selects R_Lo y_Lo_arrive y_Lo_arrive ∈ gq_tbl := gq_m 117 (by decide +kernel) rfl
set_option maxRecDepth 20000 in
theorem wd_97 : Cond.code y_LR_isPlace b_LR_isPlace 1 (some .boolean) ∈ gq_tbl := gq_m 41 rfl rfl
set_option maxRecDepth 20000 in
theorem wd_98 : Cond.methodLink R_LR 31 y_LR_isPlace ∈ gq_tbl := gq_m 39 (by decide +kernel) rfl
set_option maxRecDepth 20000 in
theorem wd_99 : Cond.static y_LR_isPlace ∈ gq_tbl := gq_m 40 (by decide +kernel) rfl
set_option maxRecDepth 20000 in
theorem wd_100 : Cond.constantLong R_LR 35 10000 ∈ gq_tbl := gq_m 46 (by decide +kernel) rfl
set_option maxRecDepth 20000 in
theorem wd_101 : Cond.instantiable R_Li 8 ∈ gq_tbl := gq_m 47 (by decide +kernel) rfl
set_option maxRecDepth 20000 in
theorem wd_102 : Cond.code y_Li_init b_Li_init 8 none ∈ gq_tbl := gq_m 50 rfl rfl
set_option maxRecDepth 20000 in
theorem wd_103 : Cond.methodLink R_LR 41 y_Li_init ∈ gq_tbl := gq_m 48 (by decide +kernel) rfl
set_option maxRecDepth 20000 in
theorem wd_104 : Cond.instanceMethod y_Li_init ∈ gq_tbl := gq_m 49 (by decide +kernel) rfl
set_option maxRecDepth 20000 in
theorem wd_105 : Cond.code y_LR_settle b_LR_settle 2 none ∈ gq_tbl := gq_m 89 rfl rfl
set_option maxRecDepth 20000 in
theorem wd_106 : Cond.methodLink R_LR 44 y_LR_settle ∈ gq_tbl := gq_m 86 (by decide +kernel) rfl
set_option maxRecDepth 20000 in
theorem wd_107 : Cond.instanceMethod y_LR_settle ∈ gq_tbl := gq_m 88 (by decide +kernel) rfl
set_option maxRecDepth 20000 in
theorem wd_108 : Cond.selects R_LR y_LR_settle y_LR_settle ∈ gq_tbl := gq_s 0 (by decide +kernel) rfl
set_option maxRecDepth 20000 in
theorem wd_109 : Cond.fieldLink R_Mo 72 "LateRoutesModel" "thrown" "I" ∈ gq_tbl := gq_m 348 (by decide +kernel) rfl
set_option maxRecDepth 20000 in
theorem wd_110 : Cond.constantLong R_Mo 82 9 ∈ gq_tbl := gq_m 425 (by decide +kernel) rfl
set_option maxRecDepth 20000 in
theorem wd_111 : Cond.code y_Mo_in b_Mo_in 6 (some .boolean) ∈ gq_tbl := gq_m 428 rfl rfl
set_option maxRecDepth 20000 in
theorem wd_112 : Cond.methodLink R_Mo 84 y_Mo_in ∈ gq_tbl := gq_m 426 (by decide +kernel) rfl
set_option maxRecDepth 20000 in
theorem wd_113 : Cond.static y_Mo_in ∈ gq_tbl := gq_m 427 (by decide +kernel) rfl
set_option maxRecDepth 20000 in
theorem wd_114 : Cond.initialized R_Mo ∈ gq_tbl := gq_m 2 (by decide +kernel) rfl
set_option maxRecDepth 20000 in
theorem wd_115 : Cond.constantLong R_Mo 88 10000 ∈ gq_tbl := gq_m 429 (by decide +kernel) rfl
set_option maxRecDepth 20000 in
theorem wd_116 : Cond.fieldLink R_Mo 76 "LateRoutesModel" "lines" "I" ∈ gq_tbl := gq_m 349 (by decide +kernel) rfl
set_option maxRecDepth 20000 in
theorem wd_117 : Cond.methodLink R_Lo 3 objectInit ∈ gq_tbl := gq_m 142 (by decide +kernel) rfl
set_option maxRecDepth 20000 in
theorem wd_118 : Cond.classLink R_Lo 9 R_Op ∈ gq_tbl := gq_m 143 (by decide +kernel) rfl
set_option maxRecDepth 20000 in
theorem wd_119 : Cond.fieldLink R_Lo 25 "LateRoutes$Load" "due" "J" ∈ gq_tbl := gq_m 148 (by decide +kernel) rfl
set_option maxRecDepth 20000 in
theorem wd_120 : Cond.fieldLink R_Lo 29 "LateRoutes$Load" "weight" "I" ∈ gq_tbl := gq_m 149 (by decide +kernel) rfl
set_option maxRecDepth 20000 in
theorem wd_121 : Cond.fieldLink R_Lo 38 "LateRoutes$Load" "keptPick" "I" ∈ gq_tbl := gq_m 154 (by decide +kernel) rfl
set_option maxRecDepth 20000 in
theorem wd_122 : Cond.code y_LR_findLine b_LR_findLine 2 (some (.object "LateRoutes$Line")) ∈ gq_tbl := gq_m 136 rfl rfl
set_option maxRecDepth 20000 in
theorem wd_123 : Cond.methodLink R_LR 47 y_LR_findLine ∈ gq_tbl := gq_m 133 (by decide +kernel) rfl
set_option maxRecDepth 20000 in
theorem wd_124 : Cond.instanceMethod y_LR_findLine ∈ gq_tbl := gq_m 135 (by decide +kernel) rfl
set_option maxRecDepth 20000 in
theorem wd_125 : Cond.selects R_LR y_LR_findLine y_LR_findLine ∈ gq_tbl := gq_s 3 (by decide +kernel) rfl
set_option maxRecDepth 20000 in
theorem wd_126 : Cond.constantLong R_LR 51 20000 ∈ gq_tbl := gq_m 137 (by decide +kernel) rfl
set_option maxRecDepth 20000 in
theorem wd_127 : Cond.constantLong R_LR 53 100 ∈ gq_tbl := gq_m 138 (by decide +kernel) rfl
set_option maxRecDepth 20000 in
theorem wd_128 : Cond.instantiable R_Lo 12 ∈ gq_tbl := gq_m 105 (by decide +kernel) rfl
set_option maxRecDepth 20000 in
theorem wd_129 : Cond.code y_Lo_init b_Lo_init 6 none ∈ gq_tbl := gq_m 141 rfl rfl
set_option maxRecDepth 20000 in
theorem wd_130 : Cond.methodLink R_LR 55 y_Lo_init ∈ gq_tbl := gq_m 139 (by decide +kernel) rfl
set_option maxRecDepth 20000 in
theorem wd_131 : Cond.instanceMethod y_Lo_init ∈ gq_tbl := gq_m 140 (by decide +kernel) rfl
set_option maxRecDepth 20000 in
theorem wd_132 : Cond.code y_LR_fileByLeaving b_LR_fileByLeaving 3 none ∈ gq_tbl := gq_m 189 rfl rfl
set_option maxRecDepth 20000 in
theorem wd_133 : Cond.methodLink R_LR 58 y_LR_fileByLeaving ∈ gq_tbl := gq_m 186 (by decide +kernel) rfl
set_option maxRecDepth 20000 in
theorem wd_134 : Cond.instanceMethod y_LR_fileByLeaving ∈ gq_tbl := gq_m 188 (by decide +kernel) rfl
set_option maxRecDepth 20000 in
theorem wd_135 : Cond.selects R_LR y_LR_fileByLeaving y_LR_fileByLeaving ∈ gq_tbl := gq_s 4 (by decide +kernel) rfl
set_option maxRecDepth 20000 in
theorem wd_136 : Cond.code y_Mo_isLine b_Mo_isLine 2 (some .boolean) ∈ gq_tbl := gq_m 437 rfl rfl
set_option maxRecDepth 20000 in
theorem wd_137 : Cond.methodLink R_Mo 90 y_Mo_isLine ∈ gq_tbl := gq_m 434 (by decide +kernel) rfl
set_option maxRecDepth 20000 in
theorem wd_138 : Cond.instanceMethod y_Mo_isLine ∈ gq_tbl := gq_m 436 (by decide +kernel) rfl
set_option maxRecDepth 20000 in
theorem wd_139 : Cond.selects R_Mo y_Mo_isLine y_Mo_isLine ∈ gq_tbl := gq_s 13 (by decide +kernel) rfl
set_option maxRecDepth 20000 in
theorem wd_140 : Cond.constantLong R_Mo 94 20000 ∈ gq_tbl := gq_m 438 (by decide +kernel) rfl
set_option maxRecDepth 20000 in
theorem wd_141 : Cond.constantLong R_Mo 96 100 ∈ gq_tbl := gq_m 439 (by decide +kernel) rfl
set_option maxRecDepth 20000 in
theorem wd_142 : Cond.fieldLink R_Mo 79 "LateRoutesModel" "loads" "I" ∈ gq_tbl := gq_m 357 (by decide +kernel) rfl
set_option maxRecDepth 20000 in
theorem wd_143 : Cond.methodLink R_Op 1 objectInit ∈ gq_tbl := gq_m 213 (by decide +kernel) rfl
set_option maxRecDepth 20000 in
theorem wd_144 : Cond.fieldLink R_Op 7 "LateRoutes$Option" "kind" "I" ∈ gq_tbl := gq_m 214 (by decide +kernel) rfl
set_option maxRecDepth 20000 in
theorem wd_145 : Cond.fieldLink R_Op 13 "LateRoutes$Option" "onward" "LLateRoutes$Line;" ∈ gq_tbl := gq_m 216 (by decide +kernel) rfl
set_option maxRecDepth 20000 in
theorem wd_146 : Cond.fieldLink R_Op 17 "LateRoutes$Option" "cost" "J" ∈ gq_tbl := gq_m 218 (by decide +kernel) rfl
set_option maxRecDepth 20000 in
theorem wd_147 : Cond.code y_Lo_hasRoom b_Lo_hasRoom 1 (some .boolean) ∈ gq_tbl := gq_m 207 rfl rfl
set_option maxRecDepth 20000 in
theorem wd_148 : Cond.methodLink R_Lo 50 y_Lo_hasRoom ∈ gq_tbl := gq_m 231 (by decide +kernel) rfl
set_option maxRecDepth 20000 in
theorem wd_149 : Cond.instanceMethod y_Lo_hasRoom ∈ gq_tbl := gq_m 205 (by decide +kernel) rfl
set_option maxRecDepth 20000 in
theorem wd_150 : Cond.selects R_Lo y_Lo_hasRoom y_Lo_hasRoom ∈ gq_tbl := gq_m 206 (by decide +kernel) rfl
set_option maxRecDepth 20000 in
theorem wd_151 : Cond.code y_LR_findLoad b_LR_findLoad 2 (some (.object "LateRoutes$Load")) ∈ gq_tbl := gq_m 197 rfl rfl
set_option maxRecDepth 20000 in
theorem wd_152 : Cond.methodLink R_LR 62 y_LR_findLoad ∈ gq_tbl := gq_m 194 (by decide +kernel) rfl
set_option maxRecDepth 20000 in
theorem wd_153 : Cond.instanceMethod y_LR_findLoad ∈ gq_tbl := gq_m 196 (by decide +kernel) rfl
set_option maxRecDepth 20000 in
theorem wd_154 : Cond.selects R_LR y_LR_findLoad y_LR_findLoad ∈ gq_tbl := gq_s 5 (by decide +kernel) rfl
set_option maxRecDepth 20000 in
theorem wd_155 : Cond.constantLong R_LR 66 2 ∈ gq_tbl := gq_m 198 (by decide +kernel) rfl
set_option maxRecDepth 20000 in
theorem wd_156 : Cond.methodLink R_LR 68 y_Lo_isDirect ∈ gq_tbl := gq_m 199 (by decide +kernel) rfl
set_option maxRecDepth 20000 in
theorem wd_157 : Cond.methodLink R_LR 76 y_Lo_hasRoom ∈ gq_tbl := gq_m 204 (by decide +kernel) rfl
set_option maxRecDepth 20000 in
theorem wd_158 : Cond.classLink R_LR 79 R_Op ∈ gq_tbl := gq_m 208 (by decide +kernel) rfl
set_option maxRecDepth 20000 in
theorem wd_159 : Cond.instantiable R_Op 3 ∈ gq_tbl := gq_m 209 (by decide +kernel) rfl
set_option maxRecDepth 20000 in
theorem wd_160 : Cond.initialized R_Op ∈ gq_tbl := gq_m 6 (by decide +kernel) rfl
set_option maxRecDepth 20000 in
theorem wd_161 : Cond.code y_Op_init b_Op_init 5 none ∈ gq_tbl := gq_m 212 rfl rfl
set_option maxRecDepth 20000 in
theorem wd_162 : Cond.methodLink R_LR 81 y_Op_init ∈ gq_tbl := gq_m 210 (by decide +kernel) rfl
set_option maxRecDepth 20000 in
theorem wd_163 : Cond.instanceMethod y_Op_init ∈ gq_tbl := gq_m 211 (by decide +kernel) rfl
set_option maxRecDepth 20000 in
theorem wd_164 : Cond.code y_Lo_addOption b_Lo_addOption 2 (some .int) ∈ gq_tbl := gq_m 230 rfl rfl
set_option maxRecDepth 20000 in
theorem wd_165 : Cond.methodLink R_LR 84 y_Lo_addOption ∈ gq_tbl := gq_m 227 (by decide +kernel) rfl
set_option maxRecDepth 20000 in
theorem wd_166 : Cond.instanceMethod y_Lo_addOption ∈ gq_tbl := gq_m 228 (by decide +kernel) rfl
set_option maxRecDepth 20000 in
theorem wd_167 : Cond.selects R_Lo y_Lo_addOption y_Lo_addOption ∈ gq_tbl := gq_m 229 (by decide +kernel) rfl
set_option maxRecDepth 20000 in
theorem wd_168 : Cond.code y_Lo_canGoOnBy b_Lo_canGoOnBy 2 (some .boolean) ∈ gq_tbl := gq_m 203 rfl rfl
set_option maxRecDepth 20000 in
theorem wd_169 : Cond.methodLink R_LR 72 y_Lo_canGoOnBy ∈ gq_tbl := gq_m 200 (by decide +kernel) rfl
set_option maxRecDepth 20000 in
theorem wd_170 : Cond.instanceMethod y_Lo_canGoOnBy ∈ gq_tbl := gq_m 201 (by decide +kernel) rfl
set_option maxRecDepth 20000 in
theorem wd_171 : Cond.selects R_Lo y_Lo_canGoOnBy y_Lo_canGoOnBy ∈ gq_tbl := gq_m 202 (by decide +kernel) rfl
set_option maxRecDepth 20000 in
theorem wd_172 : Cond.code y_Mo_isLoad b_Mo_isLoad 2 (some .boolean) ∈ gq_tbl := gq_m 447 rfl rfl
set_option maxRecDepth 20000 in
theorem wd_173 : Cond.methodLink R_Mo 98 y_Mo_isLoad ∈ gq_tbl := gq_m 444 (by decide +kernel) rfl
set_option maxRecDepth 20000 in
theorem wd_174 : Cond.instanceMethod y_Mo_isLoad ∈ gq_tbl := gq_m 446 (by decide +kernel) rfl
set_option maxRecDepth 20000 in
theorem wd_175 : Cond.selects R_Mo y_Mo_isLoad y_Mo_isLoad ∈ gq_tbl := gq_s 14 (by decide +kernel) rfl
set_option maxRecDepth 20000 in
theorem wd_176 : Cond.constantLong R_Mo 101 2 ∈ gq_tbl := gq_m 448 (by decide +kernel) rfl
set_option maxRecDepth 20000 in
theorem wd_177 : Cond.code y_Mo_isDirect b_Mo_isDirect 2 (some .boolean) ∈ gq_tbl := gq_m 452 rfl rfl
set_option maxRecDepth 20000 in
theorem wd_178 : Cond.methodLink R_Mo 103 y_Mo_isDirect ∈ gq_tbl := gq_m 449 (by decide +kernel) rfl
set_option maxRecDepth 20000 in
theorem wd_179 : Cond.instanceMethod y_Mo_isDirect ∈ gq_tbl := gq_m 451 (by decide +kernel) rfl
set_option maxRecDepth 20000 in
theorem wd_180 : Cond.selects R_Mo y_Mo_isDirect y_Mo_isDirect ∈ gq_tbl := gq_s 15 (by decide +kernel) rfl
set_option maxRecDepth 20000 in
theorem wd_181 : Cond.constantLong R_LR 88 600 ∈ gq_tbl := gq_m 236 (by decide +kernel) rfl
set_option maxRecDepth 20000 in
theorem wd_182 : Cond.constantLong R_Mo 106 600 ∈ gq_tbl := gq_m 457 (by decide +kernel) rfl
set_option maxRecDepth 20000 in
theorem wd_183 : Cond.methodLink R_Lo 103 Lib.MathLoose.max_long.x ∈ gq_tbl := gq_m 250 (by decide +kernel) rfl
set_option maxRecDepth 20000 in
theorem wd_184 : Cond.code y_Lo_minutesBehind b_Lo_minutesBehind 1 (some .long) ∈ gq_tbl := gq_m 249 rfl rfl
set_option maxRecDepth 20000 in
theorem wd_185 : Cond.methodLink R_LR 168 y_Lo_minutesBehind ∈ gq_tbl := gq_m 246 (by decide +kernel) rfl
set_option maxRecDepth 20000 in
theorem wd_186 : Cond.instanceMethod y_Lo_minutesBehind ∈ gq_tbl := gq_m 247 (by decide +kernel) rfl
set_option maxRecDepth 20000 in
theorem wd_187 : Cond.selects R_Lo y_Lo_minutesBehind y_Lo_minutesBehind ∈ gq_tbl := gq_m 248 (by decide +kernel) rfl
set_option maxRecDepth 20000 in
theorem wd_188 : Cond.constantLong R_LR 94 2000 ∈ gq_tbl := gq_m 241 (by decide +kernel) rfl
set_option maxRecDepth 20000 in
theorem wd_189 : Cond.code y_LR_countFailing b_LR_countFailing 3 (some .int) ∈ gq_tbl := gq_m 245 rfl rfl
set_option maxRecDepth 20000 in
theorem wd_190 : Cond.methodLink R_LR 99 y_LR_countFailing ∈ gq_tbl := gq_m 242 (by decide +kernel) rfl
set_option maxRecDepth 20000 in
theorem wd_191 : Cond.instanceMethod y_LR_countFailing ∈ gq_tbl := gq_m 244 (by decide +kernel) rfl
set_option maxRecDepth 20000 in
theorem wd_192 : Cond.selects R_LR y_LR_countFailing y_LR_countFailing ∈ gq_tbl := gq_s 6 (by decide +kernel) rfl
set_option maxRecDepth 20000 in
theorem wd_193 : Cond.code y_Mo_there b_Mo_there 2 (some .long) ∈ gq_tbl := gq_m 475 rfl rfl
set_option maxRecDepth 20000 in
theorem wd_194 : Cond.methodLink R_Mo 108 y_Mo_there ∈ gq_tbl := gq_m 472 (by decide +kernel) rfl
set_option maxRecDepth 20000 in
theorem wd_195 : Cond.instanceMethod y_Mo_there ∈ gq_tbl := gq_m 474 (by decide +kernel) rfl
set_option maxRecDepth 20000 in
theorem wd_196 : Cond.selects R_Mo y_Mo_there y_Mo_there ∈ gq_tbl := gq_s 18 (by decide +kernel) rfl
set_option maxRecDepth 20000 in
theorem wd_197 : Cond.constantLong R_Mo 112 10 ∈ gq_tbl := gq_m 476 (by decide +kernel) rfl
set_option maxRecDepth 20000 in
theorem wd_198 : Cond.constantLong R_Mo 116 1440 ∈ gq_tbl := gq_m 482 (by decide +kernel) rfl
set_option maxRecDepth 20000 in
theorem wd_199 : Cond.constantLong R_Mo 114 60 ∈ gq_tbl := gq_m 481 (by decide +kernel) rfl
set_option maxRecDepth 20000 in
theorem wd_200 : Cond.constantLong R_Mo 118 (-1) ∈ gq_tbl := gq_m 467 (by decide +kernel) rfl
set_option maxRecDepth 20000 in
theorem wd_201 : Cond.code y_Mo_depart b_Mo_depart 9 none ∈ gq_tbl := gq_m 471 rfl rfl
set_option maxRecDepth 20000 in
theorem wd_202 : Cond.methodLink R_Mo 120 y_Mo_depart ∈ gq_tbl := gq_m 468 (by decide +kernel) rfl
set_option maxRecDepth 20000 in
theorem wd_203 : Cond.instanceMethod y_Mo_depart ∈ gq_tbl := gq_m 470 (by decide +kernel) rfl
set_option maxRecDepth 20000 in
theorem wd_204 : Cond.selects R_Mo y_Mo_depart y_Mo_depart ∈ gq_tbl := gq_s 17 (by decide +kernel) rfl
set_option maxRecDepth 20000 in
theorem wd_205 : Cond.code y_Mo_arrive b_Mo_arrive 6 none ∈ gq_tbl := gq_m 480 rfl rfl
set_option maxRecDepth 20000 in
theorem wd_206 : Cond.methodLink R_Mo 124 y_Mo_arrive ∈ gq_tbl := gq_m 477 (by decide +kernel) rfl
set_option maxRecDepth 20000 in
theorem wd_207 : Cond.instanceMethod y_Mo_arrive ∈ gq_tbl := gq_m 479 (by decide +kernel) rfl
set_option maxRecDepth 20000 in
theorem wd_208 : Cond.selects R_Mo y_Mo_arrive y_Mo_arrive ∈ gq_tbl := gq_s 19 (by decide +kernel) rfl
set_option maxRecDepth 20000 in
theorem wd_209 : Cond.constantLong R_Mo 127 2000 ∈ gq_tbl := gq_m 462 (by decide +kernel) rfl
set_option maxRecDepth 20000 in
theorem wd_210 : Cond.code y_Mo_reckon b_Mo_reckon 8 none ∈ gq_tbl := gq_m 466 rfl rfl
set_option maxRecDepth 20000 in
theorem wd_211 : Cond.methodLink R_Mo 129 y_Mo_reckon ∈ gq_tbl := gq_m 463 (by decide +kernel) rfl
set_option maxRecDepth 20000 in
theorem wd_212 : Cond.instanceMethod y_Mo_reckon ∈ gq_tbl := gq_m 465 (by decide +kernel) rfl
set_option maxRecDepth 20000 in
theorem wd_213 : Cond.selects R_Mo y_Mo_reckon y_Mo_reckon ∈ gq_tbl := gq_s 16 (by decide +kernel) rfl
set_option maxRecDepth 20000 in
theorem wd_214 : Cond.fieldLink R_Lo 100 "LateRoutes$Load" "arrivedBefore" "J" ∈ gq_tbl := gq_m 158 (by decide +kernel) rfl
set_option maxRecDepth 20000 in
theorem wd_215 : Cond.code y_Lo_hasMoved b_Lo_hasMoved 1 (some .boolean) ∈ gq_tbl := gq_m 274 rfl rfl
set_option maxRecDepth 20000 in
theorem wd_216 : Cond.methodLink R_LR 171 y_Lo_hasMoved ∈ gq_tbl := gq_m 271 (by decide +kernel) rfl
set_option maxRecDepth 20000 in
theorem wd_217 : Cond.instanceMethod y_Lo_hasMoved ∈ gq_tbl := gq_m 272 (by decide +kernel) rfl
set_option maxRecDepth 20000 in
theorem wd_218 : Cond.selects R_Lo y_Lo_hasMoved y_Lo_hasMoved ∈ gq_tbl := gq_m 273 (by decide +kernel) rfl
set_option maxRecDepth 20000 in
theorem wd_219 : Cond.code y_LR_countMoved b_LR_countMoved 3 (some .int) ∈ gq_tbl := gq_m 270 rfl rfl
set_option maxRecDepth 20000 in
theorem wd_220 : Cond.methodLink R_LR 112 y_LR_countMoved ∈ gq_tbl := gq_m 267 (by decide +kernel) rfl
set_option maxRecDepth 20000 in
theorem wd_221 : Cond.instanceMethod y_LR_countMoved ∈ gq_tbl := gq_m 269 (by decide +kernel) rfl
set_option maxRecDepth 20000 in
theorem wd_222 : Cond.selects R_LR y_LR_countMoved y_LR_countMoved ∈ gq_tbl := gq_s 7 (by decide +kernel) rfl
set_option maxRecDepth 20000 in
theorem wd_223 : Cond.code y_Lo_rememberArrival b_Lo_rememberArrival 1 none ∈ gq_tbl := gq_m 258 rfl rfl
set_option maxRecDepth 20000 in
theorem wd_224 : Cond.methodLink R_LR 103 y_Lo_rememberArrival ∈ gq_tbl := gq_m 255 (by decide +kernel) rfl
set_option maxRecDepth 20000 in
theorem wd_225 : Cond.instanceMethod y_Lo_rememberArrival ∈ gq_tbl := gq_m 256 (by decide +kernel) rfl
set_option maxRecDepth 20000 in
theorem wd_226 : Cond.selects R_Lo y_Lo_rememberArrival y_Lo_rememberArrival ∈ gq_tbl := gq_m 257 (by decide +kernel) rfl
set_option maxRecDepth 20000 in
theorem wd_227 : Cond.code y_Lo_concerns b_Lo_concerns 4 (some .boolean) ∈ gq_tbl := gq_m 262 rfl rfl
set_option maxRecDepth 20000 in
theorem wd_228 : Cond.methodLink R_LR 106 y_Lo_concerns ∈ gq_tbl := gq_m 259 (by decide +kernel) rfl
set_option maxRecDepth 20000 in
theorem wd_229 : Cond.instanceMethod y_Lo_concerns ∈ gq_tbl := gq_m 260 (by decide +kernel) rfl
set_option maxRecDepth 20000 in
theorem wd_230 : Cond.selects R_Lo y_Lo_concerns y_Lo_concerns ∈ gq_tbl := gq_m 261 (by decide +kernel) rfl
set_option maxRecDepth 20000 in
theorem wd_231 : Cond.code y_Lo_pickFirst b_Lo_pickFirst 1 none ∈ gq_tbl := gq_m 266 rfl rfl
set_option maxRecDepth 20000 in
theorem wd_232 : Cond.methodLink R_LR 109 y_Lo_pickFirst ∈ gq_tbl := gq_m 263 (by decide +kernel) rfl
set_option maxRecDepth 20000 in
theorem wd_233 : Cond.instanceMethod y_Lo_pickFirst ∈ gq_tbl := gq_m 264 (by decide +kernel) rfl
set_option maxRecDepth 20000 in
theorem wd_234 : Cond.selects R_Lo y_Lo_pickFirst y_Lo_pickFirst ∈ gq_tbl := gq_m 265 (by decide +kernel) rfl
set_option maxRecDepth 20000 in
theorem wd_235 : Cond.methodLink R_Lo 109 y_Lo_minutesBehind ∈ gq_tbl := gq_m 288 (by decide +kernel) rfl
set_option maxRecDepth 20000 in
theorem wd_236 : Cond.code y_Lo_harm b_Lo_harm 2 (some .long) ∈ gq_tbl := gq_m 287 rfl rfl
set_option maxRecDepth 20000 in
theorem wd_237 : Cond.methodLink R_LR 177 y_Lo_harm ∈ gq_tbl := gq_m 284 (by decide +kernel) rfl
set_option maxRecDepth 20000 in
theorem wd_238 : Cond.instanceMethod y_Lo_harm ∈ gq_tbl := gq_m 285 (by decide +kernel) rfl
set_option maxRecDepth 20000 in
theorem wd_239 : Cond.selects R_Lo y_Lo_harm y_Lo_harm ∈ gq_tbl := gq_m 286 (by decide +kernel) rfl
set_option maxRecDepth 20000 in
theorem wd_240 : Cond.code y_Lo_isAct b_Lo_isAct 2 (some .boolean) ∈ gq_tbl := gq_m 296 rfl rfl
set_option maxRecDepth 20000 in
theorem wd_241 : Cond.methodLink R_LR 174 y_Lo_isAct ∈ gq_tbl := gq_m 293 (by decide +kernel) rfl
set_option maxRecDepth 20000 in
theorem wd_242 : Cond.instanceMethod y_Lo_isAct ∈ gq_tbl := gq_m 294 (by decide +kernel) rfl
set_option maxRecDepth 20000 in
theorem wd_243 : Cond.selects R_Lo y_Lo_isAct y_Lo_isAct ∈ gq_tbl := gq_m 295 (by decide +kernel) rfl
set_option maxRecDepth 20000 in
theorem wd_244 : Cond.code y_Lo_keepPicked b_Lo_keepPicked 1 none ∈ gq_tbl := gq_m 304 rfl rfl
set_option maxRecDepth 20000 in
theorem wd_245 : Cond.methodLink R_LR 183 y_Lo_keepPicked ∈ gq_tbl := gq_m 301 (by decide +kernel) rfl
set_option maxRecDepth 20000 in
theorem wd_246 : Cond.instanceMethod y_Lo_keepPicked ∈ gq_tbl := gq_m 302 (by decide +kernel) rfl
set_option maxRecDepth 20000 in
theorem wd_247 : Cond.selects R_Lo y_Lo_keepPicked y_Lo_keepPicked ∈ gq_tbl := gq_m 303 (by decide +kernel) rfl
set_option maxRecDepth 20000 in
theorem wd_248 : Cond.code y_Lo_pickNext b_Lo_pickNext 1 (some .boolean) ∈ gq_tbl := gq_m 312 rfl rfl
set_option maxRecDepth 20000 in
theorem wd_249 : Cond.methodLink R_LR 180 y_Lo_pickNext ∈ gq_tbl := gq_m 309 (by decide +kernel) rfl
set_option maxRecDepth 20000 in
theorem wd_250 : Cond.instanceMethod y_Lo_pickNext ∈ gq_tbl := gq_m 310 (by decide +kernel) rfl
set_option maxRecDepth 20000 in
theorem wd_251 : Cond.selects R_Lo y_Lo_pickNext y_Lo_pickNext ∈ gq_tbl := gq_m 311 (by decide +kernel) rfl
set_option maxRecDepth 20000 in
theorem wd_252 : Cond.code y_Lo_takeKept b_Lo_takeKept 1 none ∈ gq_tbl := gq_m 320 rfl rfl
set_option maxRecDepth 20000 in
theorem wd_253 : Cond.methodLink R_LR 186 y_Lo_takeKept ∈ gq_tbl := gq_m 317 (by decide +kernel) rfl
set_option maxRecDepth 20000 in
theorem wd_254 : Cond.instanceMethod y_Lo_takeKept ∈ gq_tbl := gq_m 318 (by decide +kernel) rfl
set_option maxRecDepth 20000 in
theorem wd_255 : Cond.selects R_Lo y_Lo_takeKept y_Lo_takeKept ∈ gq_tbl := gq_m 319 (by decide +kernel) rfl
set_option maxRecDepth 20000 in
theorem wd_256 : Cond.constantLong R_LR 117 9223372036854775807 ∈ gq_tbl := gq_m 279 (by decide +kernel) rfl
set_option maxRecDepth 20000 in
theorem wd_257 : Cond.code y_LR_takeKeptChoice b_LR_takeKeptChoice 2 none ∈ gq_tbl := gq_m 316 rfl rfl
set_option maxRecDepth 20000 in
theorem wd_258 : Cond.methodLink R_LR 132 y_LR_takeKeptChoice ∈ gq_tbl := gq_m 313 (by decide +kernel) rfl
set_option maxRecDepth 20000 in
theorem wd_259 : Cond.instanceMethod y_LR_takeKeptChoice ∈ gq_tbl := gq_m 315 (by decide +kernel) rfl
set_option maxRecDepth 20000 in
theorem wd_260 : Cond.selects R_LR y_LR_takeKeptChoice y_LR_takeKeptChoice ∈ gq_tbl := gq_s 12 (by decide +kernel) rfl
set_option maxRecDepth 20000 in
theorem wd_261 : Cond.code y_LR_sumHarm b_LR_sumHarm 4 (some .long) ∈ gq_tbl := gq_m 283 rfl rfl
set_option maxRecDepth 20000 in
theorem wd_262 : Cond.methodLink R_LR 119 y_LR_sumHarm ∈ gq_tbl := gq_m 280 (by decide +kernel) rfl
set_option maxRecDepth 20000 in
theorem wd_263 : Cond.instanceMethod y_LR_sumHarm ∈ gq_tbl := gq_m 282 (by decide +kernel) rfl
set_option maxRecDepth 20000 in
theorem wd_264 : Cond.selects R_LR y_LR_sumHarm y_LR_sumHarm ∈ gq_tbl := gq_s 8 (by decide +kernel) rfl
set_option maxRecDepth 20000 in
theorem wd_265 : Cond.code y_LR_countActs b_LR_countActs 3 (some .int) ∈ gq_tbl := gq_m 292 rfl rfl
set_option maxRecDepth 20000 in
theorem wd_266 : Cond.methodLink R_LR 123 y_LR_countActs ∈ gq_tbl := gq_m 289 (by decide +kernel) rfl
set_option maxRecDepth 20000 in
theorem wd_267 : Cond.instanceMethod y_LR_countActs ∈ gq_tbl := gq_m 291 (by decide +kernel) rfl
set_option maxRecDepth 20000 in
theorem wd_268 : Cond.selects R_LR y_LR_countActs y_LR_countActs ∈ gq_tbl := gq_s 9 (by decide +kernel) rfl
set_option maxRecDepth 20000 in
theorem wd_269 : Cond.code y_LR_keepChoice b_LR_keepChoice 2 none ∈ gq_tbl := gq_m 300 rfl rfl
set_option maxRecDepth 20000 in
theorem wd_270 : Cond.methodLink R_LR 126 y_LR_keepChoice ∈ gq_tbl := gq_m 297 (by decide +kernel) rfl
set_option maxRecDepth 20000 in
theorem wd_271 : Cond.instanceMethod y_LR_keepChoice ∈ gq_tbl := gq_m 299 (by decide +kernel) rfl
set_option maxRecDepth 20000 in
theorem wd_272 : Cond.selects R_LR y_LR_keepChoice y_LR_keepChoice ∈ gq_tbl := gq_s 10 (by decide +kernel) rfl
set_option maxRecDepth 20000 in
theorem wd_273 : Cond.code y_LR_pickNextChoice b_LR_pickNextChoice 2 (some .boolean) ∈ gq_tbl := gq_m 308 rfl rfl
set_option maxRecDepth 20000 in
theorem wd_274 : Cond.methodLink R_LR 129 y_LR_pickNextChoice ∈ gq_tbl := gq_m 305 (by decide +kernel) rfl
set_option maxRecDepth 20000 in
theorem wd_275 : Cond.instanceMethod y_LR_pickNextChoice ∈ gq_tbl := gq_m 307 (by decide +kernel) rfl
set_option maxRecDepth 20000 in
theorem wd_276 : Cond.selects R_LR y_LR_pickNextChoice y_LR_pickNextChoice ∈ gq_tbl := gq_s 11 (by decide +kernel) rfl
set_option maxRecDepth 20000 in
theorem wd_277 : Cond.code y_Mo_harm b_Mo_harm 4 (some .long) ∈ gq_tbl := gq_m 494 rfl rfl
set_option maxRecDepth 20000 in
theorem wd_278 : Cond.methodLink R_Mo 132 y_Mo_harm ∈ gq_tbl := gq_m 491 (by decide +kernel) rfl
set_option maxRecDepth 20000 in
theorem wd_279 : Cond.instanceMethod y_Mo_harm ∈ gq_tbl := gq_m 493 (by decide +kernel) rfl
set_option maxRecDepth 20000 in
theorem wd_280 : Cond.selects R_Mo y_Mo_harm y_Mo_harm ∈ gq_tbl := gq_s 20 (by decide +kernel) rfl
set_option maxRecDepth 20000 in
theorem wd_281 : Cond.code y_Mo_actsNow b_Mo_actsNow 3 (some .int) ∈ gq_tbl := gq_m 498 rfl rfl
set_option maxRecDepth 20000 in
theorem wd_282 : Cond.methodLink R_Mo 136 y_Mo_actsNow ∈ gq_tbl := gq_m 495 (by decide +kernel) rfl
set_option maxRecDepth 20000 in
theorem wd_283 : Cond.instanceMethod y_Mo_actsNow ∈ gq_tbl := gq_m 497 (by decide +kernel) rfl
set_option maxRecDepth 20000 in
theorem wd_284 : Cond.selects R_Mo y_Mo_actsNow y_Mo_actsNow ∈ gq_tbl := gq_s 21 (by decide +kernel) rfl
set_option maxRecDepth 20000 in
theorem wd_285 : Cond.code y_Mo_next b_Mo_next 2 (some .boolean) ∈ gq_tbl := gq_m 502 rfl rfl
set_option maxRecDepth 20000 in
theorem wd_286 : Cond.methodLink R_Mo 140 y_Mo_next ∈ gq_tbl := gq_m 499 (by decide +kernel) rfl
set_option maxRecDepth 20000 in
theorem wd_287 : Cond.instanceMethod y_Mo_next ∈ gq_tbl := gq_m 501 (by decide +kernel) rfl
set_option maxRecDepth 20000 in
theorem wd_288 : Cond.selects R_Mo y_Mo_next y_Mo_next ∈ gq_tbl := gq_s 22 (by decide +kernel) rfl
set_option maxRecDepth 20000 in
theorem wd_289 : Cond.constantLong R_LR 138 (-11) ∈ gq_tbl := gq_m 329 (by decide +kernel) rfl
set_option maxRecDepth 20000 in
theorem wd_290 : Cond.constantLong R_Mo 144 (-11) ∈ gq_tbl := gq_m 511 (by decide +kernel) rfl
set_option maxRecDepth 20000 in
theorem l_LR_0 : u_lay R_LR T_LR 0 ∈ gq_tbl := gq_m 24 (by decide +kernel) rfl
set_option maxRecDepth 20000 in
theorem l_LR_1 : u_lay R_LR T_LR 1 ∈ gq_tbl := gq_m 26 (by decide +kernel) rfl
set_option maxRecDepth 20000 in
theorem l_LR_2 : u_lay R_LR T_LR 2 ∈ gq_tbl := gq_m 28 (by decide +kernel) rfl
set_option maxRecDepth 20000 in
theorem l_LR_3 : u_lay R_LR T_LR 3 ∈ gq_tbl := gq_m 30 (by decide +kernel) rfl
set_option maxRecDepth 20000 in
theorem l_LR_4 : u_lay R_LR T_LR 4 ∈ gq_tbl := gq_m 32 (by decide +kernel) rfl
theorem i_LR : ∀ w ∈ u_ws R_LR T_LR 5, w ∈ gq_tbl := by
  intro w hw
  obtain ⟨k, hk, rfl⟩ := List.mem_map.mp hw
  have hk := List.mem_range.mp hk
  match k, hk with
  | 0, _ => exact l_LR_0
  | 1, _ => exact l_LR_1
  | 2, _ => exact l_LR_2
  | 3, _ => exact l_LR_3
  | 4, _ => exact l_LR_4
  | k + 5, hk => exact absurd hk (by omega)
set_option maxRecDepth 20000 in
theorem l_Li_0 : u_lay R_Li T_Li 0 ∈ gq_tbl := gq_m 69 (by decide +kernel) rfl
set_option maxRecDepth 20000 in
theorem l_Li_1 : u_lay R_Li T_Li 1 ∈ gq_tbl := gq_m 71 (by decide +kernel) rfl
set_option maxRecDepth 20000 in
theorem l_Li_2 : u_lay R_Li T_Li 2 ∈ gq_tbl := gq_m 73 (by decide +kernel) rfl
set_option maxRecDepth 20000 in
theorem l_Li_3 : u_lay R_Li T_Li 3 ∈ gq_tbl := gq_m 75 (by decide +kernel) rfl
set_option maxRecDepth 20000 in
theorem l_Li_4 : u_lay R_Li T_Li 4 ∈ gq_tbl := gq_m 77 (by decide +kernel) rfl
set_option maxRecDepth 20000 in
theorem l_Li_5 : u_lay R_Li T_Li 5 ∈ gq_tbl := gq_m 79 (by decide +kernel) rfl
set_option maxRecDepth 20000 in
theorem l_Li_6 : u_lay R_Li T_Li 6 ∈ gq_tbl := gq_m 81 (by decide +kernel) rfl
set_option maxRecDepth 20000 in
theorem l_Li_7 : u_lay R_Li T_Li 7 ∈ gq_tbl := gq_m 83 (by decide +kernel) rfl
theorem i_Li : ∀ w ∈ u_ws R_Li T_Li 8, w ∈ gq_tbl := by
  intro w hw
  obtain ⟨k, hk, rfl⟩ := List.mem_map.mp hw
  have hk := List.mem_range.mp hk
  match k, hk with
  | 0, _ => exact l_Li_0
  | 1, _ => exact l_Li_1
  | 2, _ => exact l_Li_2
  | 3, _ => exact l_Li_3
  | 4, _ => exact l_Li_4
  | 5, _ => exact l_Li_5
  | 6, _ => exact l_Li_6
  | 7, _ => exact l_Li_7
  | k + 8, hk => exact absurd hk (by omega)
set_option maxRecDepth 20000 in
theorem l_Op_0 : u_lay R_Op T_Op 0 ∈ gq_tbl := gq_m 220 (by decide +kernel) rfl
set_option maxRecDepth 20000 in
theorem l_Op_1 : u_lay R_Op T_Op 1 ∈ gq_tbl := gq_m 222 (by decide +kernel) rfl
set_option maxRecDepth 20000 in
theorem l_Op_2 : u_lay R_Op T_Op 2 ∈ gq_tbl := gq_m 224 (by decide +kernel) rfl
theorem i_Op : ∀ w ∈ u_ws R_Op T_Op 3, w ∈ gq_tbl := by
  intro w hw
  obtain ⟨k, hk, rfl⟩ := List.mem_map.mp hw
  have hk := List.mem_range.mp hk
  match k, hk with
  | 0, _ => exact l_Op_0
  | 1, _ => exact l_Op_1
  | 2, _ => exact l_Op_2
  | k + 3, hk => exact absurd hk (by omega)
set_option maxRecDepth 20000 in
theorem l_Lo_0 : u_lay R_Lo T_Lo 0 ∈ gq_tbl := gq_m 161 (by decide +kernel) rfl
set_option maxRecDepth 20000 in
theorem l_Lo_1 : u_lay R_Lo T_Lo 1 ∈ gq_tbl := gq_m 163 (by decide +kernel) rfl
set_option maxRecDepth 20000 in
theorem l_Lo_2 : u_lay R_Lo T_Lo 2 ∈ gq_tbl := gq_m 165 (by decide +kernel) rfl
set_option maxRecDepth 20000 in
theorem l_Lo_3 : u_lay R_Lo T_Lo 3 ∈ gq_tbl := gq_m 167 (by decide +kernel) rfl
set_option maxRecDepth 20000 in
theorem l_Lo_4 : u_lay R_Lo T_Lo 4 ∈ gq_tbl := gq_m 169 (by decide +kernel) rfl
set_option maxRecDepth 20000 in
theorem l_Lo_5 : u_lay R_Lo T_Lo 5 ∈ gq_tbl := gq_m 171 (by decide +kernel) rfl
set_option maxRecDepth 20000 in
theorem l_Lo_6 : u_lay R_Lo T_Lo 6 ∈ gq_tbl := gq_m 173 (by decide +kernel) rfl
set_option maxRecDepth 20000 in
theorem l_Lo_7 : u_lay R_Lo T_Lo 7 ∈ gq_tbl := gq_m 175 (by decide +kernel) rfl
set_option maxRecDepth 20000 in
theorem l_Lo_8 : u_lay R_Lo T_Lo 8 ∈ gq_tbl := gq_m 177 (by decide +kernel) rfl
set_option maxRecDepth 20000 in
theorem l_Lo_9 : u_lay R_Lo T_Lo 9 ∈ gq_tbl := gq_m 179 (by decide +kernel) rfl
set_option maxRecDepth 20000 in
theorem l_Lo_10 : u_lay R_Lo T_Lo 10 ∈ gq_tbl := gq_m 181 (by decide +kernel) rfl
set_option maxRecDepth 20000 in
theorem l_Lo_11 : u_lay R_Lo T_Lo 11 ∈ gq_tbl := gq_m 183 (by decide +kernel) rfl
theorem i_Lo : ∀ w ∈ u_ws R_Lo T_Lo 12, w ∈ gq_tbl := by
  intro w hw
  obtain ⟨k, hk, rfl⟩ := List.mem_map.mp hw
  have hk := List.mem_range.mp hk
  match k, hk with
  | 0, _ => exact l_Lo_0
  | 1, _ => exact l_Lo_1
  | 2, _ => exact l_Lo_2
  | 3, _ => exact l_Lo_3
  | 4, _ => exact l_Lo_4
  | 5, _ => exact l_Lo_5
  | 6, _ => exact l_Lo_6
  | 7, _ => exact l_Lo_7
  | 8, _ => exact l_Lo_8
  | 9, _ => exact l_Lo_9
  | 10, _ => exact l_Lo_10
  | 11, _ => exact l_Lo_11
  | k + 12, hk => exact absurd hk (by omega)
set_option maxRecDepth 20000 in
theorem l_Mo_0 : u_lay R_Mo T_Mo 0 ∈ gq_tbl := gq_m 371 (by decide +kernel) rfl
set_option maxRecDepth 20000 in
theorem l_Mo_1 : u_lay R_Mo T_Mo 1 ∈ gq_tbl := gq_m 373 (by decide +kernel) rfl
set_option maxRecDepth 20000 in
theorem l_Mo_2 : u_lay R_Mo T_Mo 2 ∈ gq_tbl := gq_m 375 (by decide +kernel) rfl
set_option maxRecDepth 20000 in
theorem l_Mo_3 : u_lay R_Mo T_Mo 3 ∈ gq_tbl := gq_m 377 (by decide +kernel) rfl
set_option maxRecDepth 20000 in
theorem l_Mo_4 : u_lay R_Mo T_Mo 4 ∈ gq_tbl := gq_m 379 (by decide +kernel) rfl
set_option maxRecDepth 20000 in
theorem l_Mo_5 : u_lay R_Mo T_Mo 5 ∈ gq_tbl := gq_m 381 (by decide +kernel) rfl
set_option maxRecDepth 20000 in
theorem l_Mo_6 : u_lay R_Mo T_Mo 6 ∈ gq_tbl := gq_m 383 (by decide +kernel) rfl
set_option maxRecDepth 20000 in
theorem l_Mo_7 : u_lay R_Mo T_Mo 7 ∈ gq_tbl := gq_m 385 (by decide +kernel) rfl
set_option maxRecDepth 20000 in
theorem l_Mo_8 : u_lay R_Mo T_Mo 8 ∈ gq_tbl := gq_m 387 (by decide +kernel) rfl
set_option maxRecDepth 20000 in
theorem l_Mo_9 : u_lay R_Mo T_Mo 9 ∈ gq_tbl := gq_m 389 (by decide +kernel) rfl
set_option maxRecDepth 20000 in
theorem l_Mo_10 : u_lay R_Mo T_Mo 10 ∈ gq_tbl := gq_m 391 (by decide +kernel) rfl
set_option maxRecDepth 20000 in
theorem l_Mo_11 : u_lay R_Mo T_Mo 11 ∈ gq_tbl := gq_m 393 (by decide +kernel) rfl
set_option maxRecDepth 20000 in
theorem l_Mo_12 : u_lay R_Mo T_Mo 12 ∈ gq_tbl := gq_m 395 (by decide +kernel) rfl
set_option maxRecDepth 20000 in
theorem l_Mo_13 : u_lay R_Mo T_Mo 13 ∈ gq_tbl := gq_m 397 (by decide +kernel) rfl
set_option maxRecDepth 20000 in
theorem l_Mo_14 : u_lay R_Mo T_Mo 14 ∈ gq_tbl := gq_m 399 (by decide +kernel) rfl
set_option maxRecDepth 20000 in
theorem l_Mo_15 : u_lay R_Mo T_Mo 15 ∈ gq_tbl := gq_m 401 (by decide +kernel) rfl
set_option maxRecDepth 20000 in
theorem l_Mo_16 : u_lay R_Mo T_Mo 16 ∈ gq_tbl := gq_m 403 (by decide +kernel) rfl
set_option maxRecDepth 20000 in
theorem l_Mo_17 : u_lay R_Mo T_Mo 17 ∈ gq_tbl := gq_m 405 (by decide +kernel) rfl
set_option maxRecDepth 20000 in
theorem l_Mo_18 : u_lay R_Mo T_Mo 18 ∈ gq_tbl := gq_m 407 (by decide +kernel) rfl
set_option maxRecDepth 20000 in
theorem l_Mo_19 : u_lay R_Mo T_Mo 19 ∈ gq_tbl := gq_m 409 (by decide +kernel) rfl
set_option maxRecDepth 20000 in
theorem l_Mo_20 : u_lay R_Mo T_Mo 20 ∈ gq_tbl := gq_m 411 (by decide +kernel) rfl
set_option maxRecDepth 20000 in
theorem l_Mo_21 : u_lay R_Mo T_Mo 21 ∈ gq_tbl := gq_m 413 (by decide +kernel) rfl
set_option maxRecDepth 20000 in
theorem l_Mo_22 : u_lay R_Mo T_Mo 22 ∈ gq_tbl := gq_m 415 (by decide +kernel) rfl
theorem i_Mo : ∀ w ∈ u_ws R_Mo T_Mo 23, w ∈ gq_tbl := by
  intro w hw
  obtain ⟨k, hk, rfl⟩ := List.mem_map.mp hw
  have hk := List.mem_range.mp hk
  match k, hk with
  | 0, _ => exact l_Mo_0
  | 1, _ => exact l_Mo_1
  | 2, _ => exact l_Mo_2
  | 3, _ => exact l_Mo_3
  | 4, _ => exact l_Mo_4
  | 5, _ => exact l_Mo_5
  | 6, _ => exact l_Mo_6
  | 7, _ => exact l_Mo_7
  | 8, _ => exact l_Mo_8
  | 9, _ => exact l_Mo_9
  | 10, _ => exact l_Mo_10
  | 11, _ => exact l_Mo_11
  | 12, _ => exact l_Mo_12
  | 13, _ => exact l_Mo_13
  | 14, _ => exact l_Mo_14
  | 15, _ => exact l_Mo_15
  | 16, _ => exact l_Mo_16
  | 17, _ => exact l_Mo_17
  | 18, _ => exact l_Mo_18
  | 19, _ => exact l_Mo_19
  | 20, _ => exact l_Mo_20
  | 21, _ => exact l_Mo_21
  | 22, _ => exact l_Mo_22
  | k + 23, hk => exact absurd hk (by omega)
def gq_nw : List Cond := [Cond.arrayOver (.object R_Li), Cond.arrayOver (.object R_Lo), Cond.fieldLinkNest R_Lo 71 "LateRoutes$Option" "kind" "I" "LateRoutes", Cond.fieldLinkNest R_Lo 57 "LateRoutes$Option" "onward" "LLateRoutes$Line;" "LateRoutes", Cond.fieldLinkNest R_Lo 41 "LateRoutes$Line" "to" "I" "LateRoutes", Cond.fieldLinkNest R_Lo 97 "LateRoutes$Line" "departsAt" "J" "LateRoutes", Cond.arrayOver (.object R_Op), Cond.fieldLinkNest R_LR 152 "LateRoutes$Load" "first" "LLateRoutes$Line;" "LateRoutes", Cond.fieldLinkNest R_LR 156 "LateRoutes$Line" "leaves" "J" "LateRoutes", Cond.fieldLinkNest R_Lo 44 "LateRoutes$Line" "from" "I" "LateRoutes", Cond.fieldLinkNest R_Lo 47 "LateRoutes$Line" "leaves" "J" "LateRoutes", Cond.fieldLinkNest R_LR 90 "LateRoutes$Line" "most" "J" "LateRoutes", Cond.fieldLinkNest R_LR 146 "LateRoutes$Load" "isLeft" "Z" "LateRoutes", Cond.fieldLinkNest R_LR 96 "LateRoutes$Line" "delay" "J" "LateRoutes", Cond.fieldLinkNest R_Lo 54 "LateRoutes$Line" "number" "I" "LateRoutes", Cond.fieldLinkNest R_Lo 112 "LateRoutes$Option" "cost" "J" "LateRoutes", Cond.fieldLinkNest R_LR 135 "LateRoutes$Load" "picked" "I" "LateRoutes", Cond.fieldLinkNest R_LR 140 "LateRoutes$Load" "arrivesAt" "J" "LateRoutes", Cond.fieldLinkNest R_LR 143 "LateRoutes$Line" "departsAt" "J" "LateRoutes"]
theorem nw_0 : Cond.arrayOver (.object R_Li) ∈ gq_nw := List.mem_of_getElem? (i := 0) rfl
theorem nw_1 : Cond.arrayOver (.object R_Lo) ∈ gq_nw := List.mem_of_getElem? (i := 1) rfl
theorem nw_2 : Cond.fieldLinkNest R_Lo 71 "LateRoutes$Option" "kind" "I" "LateRoutes" ∈ gq_nw := List.mem_of_getElem? (i := 2) rfl
theorem nw_3 : Cond.fieldLinkNest R_Lo 57 "LateRoutes$Option" "onward" "LLateRoutes$Line;" "LateRoutes" ∈ gq_nw := List.mem_of_getElem? (i := 3) rfl
theorem nw_4 : Cond.fieldLinkNest R_Lo 41 "LateRoutes$Line" "to" "I" "LateRoutes" ∈ gq_nw := List.mem_of_getElem? (i := 4) rfl
theorem nw_5 : Cond.fieldLinkNest R_Lo 97 "LateRoutes$Line" "departsAt" "J" "LateRoutes" ∈ gq_nw := List.mem_of_getElem? (i := 5) rfl
theorem nw_6 : Cond.arrayOver (.object R_Op) ∈ gq_nw := List.mem_of_getElem? (i := 6) rfl
theorem nw_7 : Cond.fieldLinkNest R_LR 152 "LateRoutes$Load" "first" "LLateRoutes$Line;" "LateRoutes" ∈ gq_nw := List.mem_of_getElem? (i := 7) rfl
theorem nw_8 : Cond.fieldLinkNest R_LR 156 "LateRoutes$Line" "leaves" "J" "LateRoutes" ∈ gq_nw := List.mem_of_getElem? (i := 8) rfl
theorem nw_9 : Cond.fieldLinkNest R_Lo 44 "LateRoutes$Line" "from" "I" "LateRoutes" ∈ gq_nw := List.mem_of_getElem? (i := 9) rfl
theorem nw_10 : Cond.fieldLinkNest R_Lo 47 "LateRoutes$Line" "leaves" "J" "LateRoutes" ∈ gq_nw := List.mem_of_getElem? (i := 10) rfl
theorem nw_11 : Cond.fieldLinkNest R_LR 90 "LateRoutes$Line" "most" "J" "LateRoutes" ∈ gq_nw := List.mem_of_getElem? (i := 11) rfl
theorem nw_12 : Cond.fieldLinkNest R_LR 146 "LateRoutes$Load" "isLeft" "Z" "LateRoutes" ∈ gq_nw := List.mem_of_getElem? (i := 12) rfl
theorem nw_13 : Cond.fieldLinkNest R_LR 96 "LateRoutes$Line" "delay" "J" "LateRoutes" ∈ gq_nw := List.mem_of_getElem? (i := 13) rfl
theorem nw_14 : Cond.fieldLinkNest R_Lo 54 "LateRoutes$Line" "number" "I" "LateRoutes" ∈ gq_nw := List.mem_of_getElem? (i := 14) rfl
theorem nw_15 : Cond.fieldLinkNest R_Lo 112 "LateRoutes$Option" "cost" "J" "LateRoutes" ∈ gq_nw := List.mem_of_getElem? (i := 15) rfl
theorem nw_16 : Cond.fieldLinkNest R_LR 135 "LateRoutes$Load" "picked" "I" "LateRoutes" ∈ gq_nw := List.mem_of_getElem? (i := 16) rfl
theorem nw_17 : Cond.fieldLinkNest R_LR 140 "LateRoutes$Load" "arrivesAt" "J" "LateRoutes" ∈ gq_nw := List.mem_of_getElem? (i := 17) rfl
theorem nw_18 : Cond.fieldLinkNest R_LR 143 "LateRoutes$Line" "departsAt" "J" "LateRoutes" ∈ gq_nw := List.mem_of_getElem? (i := 18) rfl
def gq_ni : List Nat := [16, 18, 215, 217, 57, 68, 144, 146, 60, 55, 59, 65, 159, 63, 53, 219, 153, 156, 67]
set_option maxRecDepth 20000 in
theorem gq_nw_in : ∀ w ∈ gq_nw, w ∈ lw_tbl := by
  intro w hw
  have h : gq_nw = gq_ni.filterMap (fun i => tables_1[i]?) := by decide +kernel
  rw [h] at hw
  obtain ⟨i, -, hi⟩ := List.mem_filterMap.mp hw
  exact List.mem_append_right _ (List.mem_of_getElem? hi)
end
section
/-! GLUE: what all contracts have in common. gq_nw (the words of nest mates) and gq_tys (the array types) stand in the part before -/
theorem gq_good : ∀ w ∈ gq_tbl, (w.onTables && w.keeps) = true ∨ ∃ ty, w = .arrayClass ty := fun w h => good_of_word (List.mem_filter.mp h).2
theorem gq_tbl_in : ∀ w ∈ gq_tbl, w ∈ lw_tbl := fun w h => (List.mem_filter.mp h).1
abbrev gq_w (y : MethodName) (b : ByteArray) (n : Nat) (r : Option FieldType) : List Cond := .code y b n r :: gq_tbl
def gq_N (U : State) : Prop := ∀ w ∈ gq_nw, va_Nw w U
def gq_isNest : Cond → Bool
  | .fieldLinkNest .. => true
  | .methodLinkNest .. => true
  | .arrayOver (.object _) => true
  | _ => false
theorem gq_nest : ∀ w ∈ gq_nw, gq_isNest w = true := by decide +kernel
theorem gq_N.warm {s U : State} (hW : s.WarmedH U.vm) (h : gq_N s) : gq_N U := by
  intro w hw
  have hk := gq_nest w hw
  have hs := h w hw
  cases w <;> first | exact va_Nw.warmF hW hs | exact va_Nw.warmM hW hs | exact Bool.noConfusion hk | (rename_i t; cases t <;> first | exact va_AO.moved hW.alike hs | exact Bool.noConfusion hk)
theorem gq_N.same {u U : State} (e : u.vm = U.vm) (h : gq_N u) : gq_N U := by
  intro w hw
  have hk := gq_nest w hw
  have hs := h w hw
  have hA : u.vm.Alike U.vm := by rw [e]; exact Vm.Alike.refl _
  cases w <;> first | exact va_Nw.same rfl e hs | exact Bool.noConfusion hk | (rename_i t; cases t <;> first | exact va_AO.moved hA hs | exact Bool.noConfusion hk)
def gq_P (G : mx_G) (av : List Value) (mem : mx_Mem) : Array Value → State → Prop := va_Pc av (fun U => G.1 ≤ U.heap.size ∧ mx_M vwCl G mem U.heap ∧ va_K G.2.1 vwCl (gq_tys G) U ∧ gq_N U)
def gq_Q (G : mx_G) (v : Option Value) (mem' : mx_Mem) : Array Value → State → Outcome → State → Prop := fun _ st oc t => (oc = .returned v ∧ mx_M vwCl G mem' t.heap) ∧ va_F (mx_A G) st t
def gq_C (p : Program) (R : Room) (s : State) (m : MethodId) (args : Array Value) (meth : Method) (c : Code) (G : mx_G) (cc : ByteArray) (nL : Nat) (ret : Option FieldType) (own : String) (nf nc ns nl : Nat) : Prop :=
  p.tables.exec = Jvm.exec ∧ c.code = cc ∧ c.maxLocals = nL ∧ meth.sig.returnType = ret ∧ s.vm.findClass own = some m.cls ∧ (∀ w ∈ gq_tbl, w.before args s = true) ∧ meth.locks = false ∧ va_K G.2.1 vwCl (gq_tys G) s ∧ gq_N s ∧ G.1 ≤ s.heap.size ∧ nf ≤ R.frames ∧ nc ≤ R.cells ∧ ns ≤ R.slots ∧ nl ≤ R.locals
theorem gq_gI {y : MethodName} {b : ByteArray} {n : Nat} {r : Option FieldType} (h5 : Cond.code y b n r ∈ gq_tbl) : GoodIn gq_tbl (gq_w y b n r) := by
  intro w hw
  have h : w ∈ gq_tbl := by
    rcases List.mem_cons.mp hw with rfl | hw
    · exact h5
    · exact hw
  exact ⟨h, gq_good w h⟩
theorem gq_gV {own C : String} {idx : Nat} {y : MethodName} {b : ByteArray} {n : Nat} {r : Option FieldType} (h1 : Cond.methodLink own idx y ∈ gq_tbl) (h2 : Cond.instanceMethod y ∈ gq_tbl) (h3 : Cond.selects C y y ∈ gq_tbl) (h4 : Cond.initialized C ∈ gq_tbl) (h5 : Cond.code y b n r ∈ gq_tbl) : GoodIn gq_tbl (wsV own idx C y (gq_w y b n r)) := by
  intro w hw
  have h : w ∈ gq_tbl := by
    rcases List.mem_append.mp hw with hw | hw
    · simp only [List.mem_cons, List.not_mem_nil, or_false] at hw
      rcases hw with rfl | rfl | rfl | rfl <;> assumption
    · exact (gq_gI h5 w hw).1
  exact ⟨h, gq_good w h⟩
theorem gq_gS {own : String} {idx : Nat} {y : MethodName} {b : ByteArray} {n : Nat} {r : Option FieldType} (h1 : Cond.methodLink own idx y ∈ gq_tbl) (h2 : Cond.static y ∈ gq_tbl) (h4 : Cond.initialized own ∈ gq_tbl) (h5 : Cond.code y b n r ∈ gq_tbl) : GoodIn gq_tbl (wsS own idx y (gq_w y b n r)) := by
  intro w hw
  have h : w ∈ gq_tbl := by
    rcases List.mem_append.mp hw with hw | hw
    · simp only [List.mem_cons, List.not_mem_nil, or_false] at hw
      rcases hw with rfl | rfl | rfl <;> assumption
    · exact (gq_gI h5 w hw).1
  exact ⟨h, gq_good w h⟩
theorem gq_blind {G : mx_G} {av : List Value} {mem : mx_Mem} : FrameBlind (gq_P G av mem) := by
  intro a U g mk q
  obtain ⟨q0, q1, qM, qK, qN⟩ := q
  exact ⟨q0, q1, qM, va_K.moved (u := U) (U := U.calling g mk a) (Vm.Alike.refl U.vm) qK, gq_N.same (u := U) (U := U.calling g mk a) rfl qN⟩
section GQ
variable {p : Program} {l : Launch} {e : Env} {R : Room} {s : State} {m : MethodId} {args : Array Value} {below : List Frame} {meth : Method} {c : Code} {H : Heap} {locs : List Loc} {cells slots : Nat} {Q : State → Prop}
variable {pc : Nat} {ls : Array Slot} {rest st0 : List Value} {a : Array Value} {G : mx_G} {mem mem' : mx_Mem} {H0 : Heap} {mc ms : Nat} {As : List Value}
theorem gq_preS (hK : va_K G.2.1 vwCl (gq_tys G) s) (hN : gq_N s) (hM : mx_M vwCl G mem H) (hS : va_S (mx_A G) H0 H locs) (hb0 : G.1 ≤ H0.size) : PreS s H (gq_P G As mem) As :=
  ⟨gq_blind, fun U hU hW => ⟨rfl, by rw [hU]; exact Nat.le_trans hb0 hS.1, by rw [hU]; exact hM, va_K.moved hW.alike hK, hN.warm hW⟩⟩
theorem gq_preV (hK : va_K G.2.1 vwCl (gq_tys G) s) (hN : gq_N s) (hM : mx_M vwCl G mem H) (hS : va_S (mx_A G) H0 H locs) (hb0 : G.1 ≤ H0.size) {r : Option Nat} {ci b : Nat} (he : mx_c mem r ci = some b) {C : String} {T : u_T} {N : Nat} (hc : vwCl[ci]? = some (C, T, N)) : PreV s H C b (gq_P G (.ref b :: As) mem) As := by
  obtain ⟨fs, h1⟩ := mx_c_spec he
  have h2 := (mx_O_spec h1).2
  exact ⟨gq_blind, va_recv hK (hM.one h2) hc (q0 := 0) rfl, fun U hU hW => ⟨rfl, by rw [hU]; exact Nat.le_trans hb0 hS.1, by rw [hU]; exact hM, va_K.moved hW.alike hK, hN.warm hW⟩⟩
theorem gq_go {v : Option Value} (hr : va_Run p l e R s m args below meth c H locs cells slots mc ms (F0 m pc ls st0) rest (gq_Q G v mem' a) (mx_A G)) (hS : va_S (mx_A G) H0 H locs)
    (kk : ∀ (H1 : Heap) (locs1 : List Loc), mx_M vwCl G mem' H1 → va_S (mx_A G) H0 H1 locs1 → W p l e R s m args below meth c H1 locs1 (cells + mc) (slots + ms) Q (F0 m (pc + 3) ls (v.toList ++ rest))) : W p l e R s m args below meth c H locs cells slots Q (F0 m pc ls st0) := by
  intro T hT X
  obtain ⟨v', st₀, t, T', L, h0, X', hL, e1, e2, ⟨⟨hv, hp⟩, hz, hk⟩, st⟩ := hr T hT X
  cases hv
  rw [h0] at hz hk
  rw [← e1] at hp hz hk
  obtain ⟨t2, a1, b1⟩ := kk T'.heap (locs ++ L) hp
    ⟨Nat.le_trans hS.1 hz, fun q h1 h2 => by rw [hk q (Nat.lt_of_lt_of_le h1 hS.1) h2]; exact hS.2.1 q h1 h2, fun q hq => by
      rcases List.mem_append.mp hq with h | h
      · exact hS.2.2 q h
      · exact hL q h⟩ T' rfl X'
  exact ⟨t2, st t2 a1, b1⟩
end GQ
end
section
theorem d_Li_init_0 : decode b_Li_init 0 = .ok (.aload_n 0, 1) := by decide +kernel
theorem d_Li_init_1 : decode b_Li_init 1 = .ok (.invokespecial 1, 3) := by decide +kernel
theorem d_Li_init_4 : decode b_Li_init 4 = .ok (.aload_n 0, 1) := by decide +kernel
theorem d_Li_init_5 : decode b_Li_init 5 = .ok (.iload_n 1, 1) := by decide +kernel
theorem d_Li_init_6 : decode b_Li_init 6 = .ok (.putfield 7, 3) := by decide +kernel
theorem d_Li_init_9 : decode b_Li_init 9 = .ok (.aload_n 0, 1) := by decide +kernel
theorem d_Li_init_10 : decode b_Li_init 10 = .ok (.iload_n 2, 1) := by decide +kernel
theorem d_Li_init_11 : decode b_Li_init 11 = .ok (.putfield 13, 3) := by decide +kernel
theorem d_Li_init_14 : decode b_Li_init 14 = .ok (.aload_n 0, 1) := by decide +kernel
theorem d_Li_init_15 : decode b_Li_init 15 = .ok (.iload_n 3, 1) := by decide +kernel
theorem d_Li_init_16 : decode b_Li_init 16 = .ok (.putfield 16, 3) := by decide +kernel
theorem d_Li_init_19 : decode b_Li_init 19 = .ok (.aload_n 0, 1) := by decide +kernel
theorem d_Li_init_20 : decode b_Li_init 20 = .ok (.lload 4, 2) := by decide +kernel
theorem d_Li_init_22 : decode b_Li_init 22 = .ok (.putfield 19, 3) := by decide +kernel
theorem d_Li_init_25 : decode b_Li_init 25 = .ok (.aload_n 0, 1) := by decide +kernel
theorem d_Li_init_26 : decode b_Li_init 26 = .ok (.lload 6, 2) := by decide +kernel
theorem d_Li_init_28 : decode b_Li_init 28 = .ok (.putfield 23, 3) := by decide +kernel
theorem d_Li_init_31 : decode b_Li_init 31 = .ok (.aload_n 0, 1) := by decide +kernel
theorem d_Li_init_32 : decode b_Li_init 32 = .ok (.lconst 0, 1) := by decide +kernel
theorem d_Li_init_33 : decode b_Li_init 33 = .ok (.putfield 26, 3) := by decide +kernel
theorem d_Li_init_36 : decode b_Li_init 36 = .ok (.aload_n 0, 1) := by decide +kernel
theorem d_Li_init_37 : decode b_Li_init 37 = .ok (.lconst 0, 1) := by decide +kernel
theorem d_Li_init_38 : decode b_Li_init 38 = .ok (.putfield 29, 3) := by decide +kernel
theorem d_Li_init_41 : decode b_Li_init 41 = .ok (.aload_n 0, 1) := by decide +kernel
theorem d_Li_init_42 : decode b_Li_init 42 = .ok (.lload 4, 2) := by decide +kernel
theorem d_Li_init_44 : decode b_Li_init 44 = .ok (.putfield 32, 3) := by decide +kernel
theorem d_Li_init_47 : decode b_Li_init 47 = .ok (.return_, 1) := by decide +kernel
theorem d_Li_forgetWaiting_0 : decode b_Li_forgetWaiting 0 = .ok (.aload_n 0, 1) := by decide +kernel
theorem d_Li_forgetWaiting_1 : decode b_Li_forgetWaiting 1 = .ok (.aload_n 0, 1) := by decide +kernel
theorem d_Li_forgetWaiting_2 : decode b_Li_forgetWaiting 2 = .ok (.getfield 19, 3) := by decide +kernel
theorem d_Li_forgetWaiting_5 : decode b_Li_forgetWaiting 5 = .ok (.aload_n 0, 1) := by decide +kernel
theorem d_Li_forgetWaiting_6 : decode b_Li_forgetWaiting 6 = .ok (.getfield 26, 3) := by decide +kernel
theorem d_Li_forgetWaiting_9 : decode b_Li_forgetWaiting 9 = .ok (.ladd, 1) := by decide +kernel
theorem d_Li_forgetWaiting_10 : decode b_Li_forgetWaiting 10 = .ok (.putfield 32, 3) := by decide +kernel
theorem d_Li_forgetWaiting_13 : decode b_Li_forgetWaiting 13 = .ok (.return_, 1) := by decide +kernel
theorem d_Li_arrivesAt_0 : decode b_Li_arrivesAt 0 = .ok (.aload_n 0, 1) := by decide +kernel
theorem d_Li_arrivesAt_1 : decode b_Li_arrivesAt 1 = .ok (.getfield 23, 3) := by decide +kernel
theorem d_Li_arrivesAt_4 : decode b_Li_arrivesAt 4 = .ok (.aload_n 0, 1) := by decide +kernel
theorem d_Li_arrivesAt_5 : decode b_Li_arrivesAt 5 = .ok (.getfield 32, 3) := by decide +kernel
theorem d_Li_arrivesAt_8 : decode b_Li_arrivesAt 8 = .ok (.aload_n 0, 1) := by decide +kernel
theorem d_Li_arrivesAt_9 : decode b_Li_arrivesAt 9 = .ok (.getfield 19, 3) := by decide +kernel
theorem d_Li_arrivesAt_12 : decode b_Li_arrivesAt 12 = .ok (.lsub, 1) := by decide +kernel
theorem d_Li_arrivesAt_13 : decode b_Li_arrivesAt 13 = .ok (.ladd, 1) := by decide +kernel
theorem d_Li_arrivesAt_14 : decode b_Li_arrivesAt 14 = .ok (.lreturn, 1) := by decide +kernel
theorem d_Li_holdUntil_0 : decode b_Li_holdUntil 0 = .ok (.lload_n 1, 1) := by decide +kernel
theorem d_Li_holdUntil_1 : decode b_Li_holdUntil 1 = .ok (.aload_n 0, 1) := by decide +kernel
theorem d_Li_holdUntil_2 : decode b_Li_holdUntil 2 = .ok (.getfield 19, 3) := by decide +kernel
theorem d_Li_holdUntil_5 : decode b_Li_holdUntil 5 = .ok (.aload_n 0, 1) := by decide +kernel
theorem d_Li_holdUntil_6 : decode b_Li_holdUntil 6 = .ok (.getfield 26, 3) := by decide +kernel
theorem d_Li_holdUntil_9 : decode b_Li_holdUntil 9 = .ok (.ladd, 1) := by decide +kernel
theorem d_Li_holdUntil_10 : decode b_Li_holdUntil 10 = .ok (.lsub, 1) := by decide +kernel
theorem d_Li_holdUntil_11 : decode b_Li_holdUntil 11 = .ok (.aload_n 0, 1) := by decide +kernel
theorem d_Li_holdUntil_12 : decode b_Li_holdUntil 12 = .ok (.getfield 29, 3) := by decide +kernel
theorem d_Li_holdUntil_15 : decode b_Li_holdUntil 15 = .ok (.lcmp, 1) := by decide +kernel
theorem d_Li_holdUntil_16 : decode b_Li_holdUntil 16 = .ok (.ifCond .gt 15, 3) := by decide +kernel
theorem d_Li_holdUntil_19 : decode b_Li_holdUntil 19 = .ok (.aload_n 0, 1) := by decide +kernel
theorem d_Li_holdUntil_20 : decode b_Li_holdUntil 20 = .ok (.aload_n 0, 1) := by decide +kernel
theorem d_Li_holdUntil_21 : decode b_Li_holdUntil 21 = .ok (.getfield 32, 3) := by decide +kernel
theorem d_Li_holdUntil_24 : decode b_Li_holdUntil 24 = .ok (.lload_n 1, 1) := by decide +kernel
theorem d_Li_holdUntil_25 : decode b_Li_holdUntil 25 = .ok (.invokestatic 35, 3) := by decide +kernel
theorem d_Li_holdUntil_28 : decode b_Li_holdUntil 28 = .ok (.putfield 32, 3) := by decide +kernel
theorem d_Li_holdUntil_31 : decode b_Li_holdUntil 31 = .ok (.return_, 1) := by decide +kernel
end
section
theorem d_Op_init_0 : decode b_Op_init 0 = .ok (.aload_n 0, 1) := by decide +kernel
theorem d_Op_init_1 : decode b_Op_init 1 = .ok (.invokespecial 1, 3) := by decide +kernel
theorem d_Op_init_4 : decode b_Op_init 4 = .ok (.aload_n 0, 1) := by decide +kernel
theorem d_Op_init_5 : decode b_Op_init 5 = .ok (.iload_n 1, 1) := by decide +kernel
theorem d_Op_init_6 : decode b_Op_init 6 = .ok (.putfield 7, 3) := by decide +kernel
theorem d_Op_init_9 : decode b_Op_init 9 = .ok (.aload_n 0, 1) := by decide +kernel
theorem d_Op_init_10 : decode b_Op_init 10 = .ok (.aload_n 2, 1) := by decide +kernel
theorem d_Op_init_11 : decode b_Op_init 11 = .ok (.putfield 13, 3) := by decide +kernel
theorem d_Op_init_14 : decode b_Op_init 14 = .ok (.aload_n 0, 1) := by decide +kernel
theorem d_Op_init_15 : decode b_Op_init 15 = .ok (.lload_n 3, 1) := by decide +kernel
theorem d_Op_init_16 : decode b_Op_init 16 = .ok (.putfield 17, 3) := by decide +kernel
theorem d_Op_init_19 : decode b_Op_init 19 = .ok (.return_, 1) := by decide +kernel
end
section
theorem d_Lo_pickedOption_0 : decode b_Lo_pickedOption 0 = .ok (.aload_n 0, 1) := by decide +kernel
theorem d_Lo_pickedOption_1 : decode b_Lo_pickedOption 1 = .ok (.getfield 35, 3) := by decide +kernel
theorem d_Lo_pickedOption_4 : decode b_Lo_pickedOption 4 = .ok (.ifCond .lt 26, 3) := by decide +kernel
theorem d_Lo_pickedOption_7 : decode b_Lo_pickedOption 7 = .ok (.aload_n 0, 1) := by decide +kernel
theorem d_Lo_pickedOption_8 : decode b_Lo_pickedOption 8 = .ok (.getfield 35, 3) := by decide +kernel
theorem d_Lo_pickedOption_11 : decode b_Lo_pickedOption 11 = .ok (.aload_n 0, 1) := by decide +kernel
theorem d_Lo_pickedOption_12 : decode b_Lo_pickedOption 12 = .ok (.getfield 32, 3) := by decide +kernel
theorem d_Lo_pickedOption_15 : decode b_Lo_pickedOption 15 = .ok (.if_icmp .ge 15, 3) := by decide +kernel
theorem d_Lo_pickedOption_18 : decode b_Lo_pickedOption 18 = .ok (.aload_n 0, 1) := by decide +kernel
theorem d_Lo_pickedOption_19 : decode b_Lo_pickedOption 19 = .ok (.getfield 11, 3) := by decide +kernel
theorem d_Lo_pickedOption_22 : decode b_Lo_pickedOption 22 = .ok (.aload_n 0, 1) := by decide +kernel
theorem d_Lo_pickedOption_23 : decode b_Lo_pickedOption 23 = .ok (.getfield 35, 3) := by decide +kernel
theorem d_Lo_pickedOption_26 : decode b_Lo_pickedOption 26 = .ok (.aaload, 1) := by decide +kernel
theorem d_Lo_pickedOption_27 : decode b_Lo_pickedOption 27 = .ok (.goto 4, 3) := by decide +kernel
theorem d_Lo_pickedOption_30 : decode b_Lo_pickedOption 30 = .ok (.aconst_null, 1) := by decide +kernel
theorem d_Lo_pickedOption_31 : decode b_Lo_pickedOption 31 = .ok (.areturn, 1) := by decide +kernel
theorem d_Lo_comeAndHold_0 : decode b_Lo_comeAndHold 0 = .ok (.aload_n 0, 1) := by decide +kernel
theorem d_Lo_comeAndHold_1 : decode b_Lo_comeAndHold 1 = .ok (.aload_n 0, 1) := by decide +kernel
theorem d_Lo_comeAndHold_2 : decode b_Lo_comeAndHold 2 = .ok (.getfield 17, 3) := by decide +kernel
theorem d_Lo_comeAndHold_5 : decode b_Lo_comeAndHold 5 = .ok (.invokevirtual 60, 3) := by decide +kernel
theorem d_Lo_comeAndHold_8 : decode b_Lo_comeAndHold 8 = .ok (.putfield 64, 3) := by decide +kernel
theorem d_Lo_comeAndHold_11 : decode b_Lo_comeAndHold 11 = .ok (.aload_n 0, 1) := by decide +kernel
theorem d_Lo_comeAndHold_12 : decode b_Lo_comeAndHold 12 = .ok (.invokevirtual 67, 3) := by decide +kernel
theorem d_Lo_comeAndHold_15 : decode b_Lo_comeAndHold 15 = .ok (.astore_n 1, 1) := by decide +kernel
theorem d_Lo_comeAndHold_16 : decode b_Lo_comeAndHold 16 = .ok (.aload_n 1, 1) := by decide +kernel
theorem d_Lo_comeAndHold_17 : decode b_Lo_comeAndHold 17 = .ok (.ifnull 33, 3) := by decide +kernel
theorem d_Lo_comeAndHold_20 : decode b_Lo_comeAndHold 20 = .ok (.aload_n 1, 1) := by decide +kernel
theorem d_Lo_comeAndHold_21 : decode b_Lo_comeAndHold 21 = .ok (.getfield 71, 3) := by decide +kernel
theorem d_Lo_comeAndHold_24 : decode b_Lo_comeAndHold 24 = .ok (.iconst 1, 1) := by decide +kernel
theorem d_Lo_comeAndHold_25 : decode b_Lo_comeAndHold 25 = .ok (.if_icmp .ne 25, 3) := by decide +kernel
theorem d_Lo_comeAndHold_28 : decode b_Lo_comeAndHold 28 = .ok (.aload_n 1, 1) := by decide +kernel
theorem d_Lo_comeAndHold_29 : decode b_Lo_comeAndHold 29 = .ok (.getfield 57, 3) := by decide +kernel
theorem d_Lo_comeAndHold_32 : decode b_Lo_comeAndHold 32 = .ok (.ifnull 18, 3) := by decide +kernel
theorem d_Lo_comeAndHold_35 : decode b_Lo_comeAndHold 35 = .ok (.aload_n 1, 1) := by decide +kernel
theorem d_Lo_comeAndHold_36 : decode b_Lo_comeAndHold 36 = .ok (.getfield 57, 3) := by decide +kernel
theorem d_Lo_comeAndHold_39 : decode b_Lo_comeAndHold 39 = .ok (.aload_n 0, 1) := by decide +kernel
theorem d_Lo_comeAndHold_40 : decode b_Lo_comeAndHold 40 = .ok (.getfield 64, 3) := by decide +kernel
theorem d_Lo_comeAndHold_43 : decode b_Lo_comeAndHold 43 = .ok (.ldc2_w 74, 3) := by decide +kernel
theorem d_Lo_comeAndHold_46 : decode b_Lo_comeAndHold 46 = .ok (.ladd, 1) := by decide +kernel
theorem d_Lo_comeAndHold_47 : decode b_Lo_comeAndHold 47 = .ok (.invokevirtual 76, 3) := by decide +kernel
theorem d_Lo_comeAndHold_50 : decode b_Lo_comeAndHold 50 = .ok (.return_, 1) := by decide +kernel
theorem d_Lo_isDirect_0 : decode b_Lo_isDirect 0 = .ok (.aload_n 0, 1) := by decide +kernel
theorem d_Lo_isDirect_1 : decode b_Lo_isDirect 1 = .ok (.getfield 17, 3) := by decide +kernel
theorem d_Lo_isDirect_4 : decode b_Lo_isDirect 4 = .ok (.getfield 41, 3) := by decide +kernel
theorem d_Lo_isDirect_7 : decode b_Lo_isDirect 7 = .ok (.aload_n 0, 1) := by decide +kernel
theorem d_Lo_isDirect_8 : decode b_Lo_isDirect 8 = .ok (.getfield 21, 3) := by decide +kernel
theorem d_Lo_isDirect_11 : decode b_Lo_isDirect 11 = .ok (.if_icmp .ne 7, 3) := by decide +kernel
theorem d_Lo_isDirect_14 : decode b_Lo_isDirect 14 = .ok (.iconst 1, 1) := by decide +kernel
theorem d_Lo_isDirect_15 : decode b_Lo_isDirect 15 = .ok (.goto 4, 3) := by decide +kernel
theorem d_Lo_isDirect_18 : decode b_Lo_isDirect 18 = .ok (.iconst 0, 1) := by decide +kernel
theorem d_Lo_isDirect_19 : decode b_Lo_isDirect 19 = .ok (.ireturn, 1) := by decide +kernel
theorem d_Lo_catches_0 : decode b_Lo_catches 0 = .ok (.aload_n 1, 1) := by decide +kernel
theorem d_Lo_catches_1 : decode b_Lo_catches 1 = .ok (.getfield 97, 3) := by decide +kernel
theorem d_Lo_catches_4 : decode b_Lo_catches 4 = .ok (.aload_n 0, 1) := by decide +kernel
theorem d_Lo_catches_5 : decode b_Lo_catches 5 = .ok (.getfield 64, 3) := by decide +kernel
theorem d_Lo_catches_8 : decode b_Lo_catches 8 = .ok (.ldc2_w 74, 3) := by decide +kernel
theorem d_Lo_catches_11 : decode b_Lo_catches 11 = .ok (.ladd, 1) := by decide +kernel
theorem d_Lo_catches_12 : decode b_Lo_catches 12 = .ok (.lcmp, 1) := by decide +kernel
theorem d_Lo_catches_13 : decode b_Lo_catches 13 = .ok (.ifCond .lt 7, 3) := by decide +kernel
theorem d_Lo_catches_16 : decode b_Lo_catches 16 = .ok (.iconst 1, 1) := by decide +kernel
theorem d_Lo_catches_17 : decode b_Lo_catches 17 = .ok (.goto 4, 3) := by decide +kernel
theorem d_Lo_catches_20 : decode b_Lo_catches 20 = .ok (.iconst 0, 1) := by decide +kernel
theorem d_Lo_catches_21 : decode b_Lo_catches 21 = .ok (.ireturn, 1) := by decide +kernel
theorem d_Lo_arrive_0 : decode b_Lo_arrive 0 = .ok (.aload_n 0, 1) := by decide +kernel
theorem d_Lo_arrive_1 : decode b_Lo_arrive 1 = .ok (.invokevirtual 67, 3) := by decide +kernel
theorem d_Lo_arrive_4 : decode b_Lo_arrive 4 = .ok (.astore_n 1, 1) := by decide +kernel
theorem d_Lo_arrive_5 : decode b_Lo_arrive 5 = .ok (.aload_n 0, 1) := by decide +kernel
theorem d_Lo_arrive_6 : decode b_Lo_arrive 6 = .ok (.iconst 0, 1) := by decide +kernel
theorem d_Lo_arrive_7 : decode b_Lo_arrive 7 = .ok (.putfield 80, 3) := by decide +kernel
theorem d_Lo_arrive_10 : decode b_Lo_arrive 10 = .ok (.aload_n 0, 1) := by decide +kernel
theorem d_Lo_arrive_11 : decode b_Lo_arrive 11 = .ok (.invokevirtual 84, 3) := by decide +kernel
theorem d_Lo_arrive_14 : decode b_Lo_arrive 14 = .ok (.ifCond .eq 14, 3) := by decide +kernel
theorem d_Lo_arrive_17 : decode b_Lo_arrive 17 = .ok (.aload_n 0, 1) := by decide +kernel
theorem d_Lo_arrive_18 : decode b_Lo_arrive 18 = .ok (.aload_n 0, 1) := by decide +kernel
theorem d_Lo_arrive_19 : decode b_Lo_arrive 19 = .ok (.getfield 64, 3) := by decide +kernel
theorem d_Lo_arrive_22 : decode b_Lo_arrive 22 = .ok (.putfield 87, 3) := by decide +kernel
theorem d_Lo_arrive_25 : decode b_Lo_arrive 25 = .ok (.goto 83, 3) := by decide +kernel
theorem d_Lo_arrive_28 : decode b_Lo_arrive 28 = .ok (.aload_n 1, 1) := by decide +kernel
theorem d_Lo_arrive_29 : decode b_Lo_arrive 29 = .ok (.ifnull 26, 3) := by decide +kernel
theorem d_Lo_arrive_32 : decode b_Lo_arrive 32 = .ok (.aload_n 1, 1) := by decide +kernel
theorem d_Lo_arrive_33 : decode b_Lo_arrive 33 = .ok (.getfield 71, 3) := by decide +kernel
theorem d_Lo_arrive_36 : decode b_Lo_arrive 36 = .ok (.iconst 2, 1) := by decide +kernel
theorem d_Lo_arrive_37 : decode b_Lo_arrive 37 = .ok (.if_icmp .ne 18, 3) := by decide +kernel
theorem d_Lo_arrive_40 : decode b_Lo_arrive 40 = .ok (.aload_n 0, 1) := by decide +kernel
theorem d_Lo_arrive_41 : decode b_Lo_arrive 41 = .ok (.aload_n 0, 1) := by decide +kernel
theorem d_Lo_arrive_42 : decode b_Lo_arrive 42 = .ok (.getfield 64, 3) := by decide +kernel
theorem d_Lo_arrive_45 : decode b_Lo_arrive 45 = .ok (.ldc2_w 89, 3) := by decide +kernel
theorem d_Lo_arrive_48 : decode b_Lo_arrive 48 = .ok (.ladd, 1) := by decide +kernel
theorem d_Lo_arrive_49 : decode b_Lo_arrive 49 = .ok (.putfield 87, 3) := by decide +kernel
theorem d_Lo_arrive_52 : decode b_Lo_arrive 52 = .ok (.goto 56, 3) := by decide +kernel
theorem d_Lo_arrive_55 : decode b_Lo_arrive 55 = .ok (.aload_n 1, 1) := by decide +kernel
theorem d_Lo_arrive_56 : decode b_Lo_arrive 56 = .ok (.ifnull 35, 3) := by decide +kernel
theorem d_Lo_arrive_59 : decode b_Lo_arrive 59 = .ok (.aload_n 1, 1) := by decide +kernel
theorem d_Lo_arrive_60 : decode b_Lo_arrive 60 = .ok (.getfield 57, 3) := by decide +kernel
theorem d_Lo_arrive_63 : decode b_Lo_arrive 63 = .ok (.ifnull 28, 3) := by decide +kernel
theorem d_Lo_arrive_66 : decode b_Lo_arrive 66 = .ok (.aload_n 0, 1) := by decide +kernel
theorem d_Lo_arrive_67 : decode b_Lo_arrive 67 = .ok (.aload_n 1, 1) := by decide +kernel
theorem d_Lo_arrive_68 : decode b_Lo_arrive 68 = .ok (.getfield 57, 3) := by decide +kernel
theorem d_Lo_arrive_71 : decode b_Lo_arrive 71 = .ok (.invokevirtual 91, 3) := by decide +kernel
theorem d_Lo_arrive_74 : decode b_Lo_arrive 74 = .ok (.ifCond .eq 17, 3) := by decide +kernel
theorem d_Lo_arrive_77 : decode b_Lo_arrive 77 = .ok (.aload_n 0, 1) := by decide +kernel
theorem d_Lo_arrive_78 : decode b_Lo_arrive 78 = .ok (.aload_n 1, 1) := by decide +kernel
theorem d_Lo_arrive_79 : decode b_Lo_arrive 79 = .ok (.getfield 57, 3) := by decide +kernel
theorem d_Lo_arrive_82 : decode b_Lo_arrive 82 = .ok (.invokevirtual 60, 3) := by decide +kernel
theorem d_Lo_arrive_85 : decode b_Lo_arrive 85 = .ok (.putfield 87, 3) := by decide +kernel
theorem d_Lo_arrive_88 : decode b_Lo_arrive 88 = .ok (.goto 20, 3) := by decide +kernel
theorem d_Lo_arrive_91 : decode b_Lo_arrive 91 = .ok (.aload_n 0, 1) := by decide +kernel
theorem d_Lo_arrive_92 : decode b_Lo_arrive 92 = .ok (.aload_n 0, 1) := by decide +kernel
theorem d_Lo_arrive_93 : decode b_Lo_arrive 93 = .ok (.getfield 64, 3) := by decide +kernel
theorem d_Lo_arrive_96 : decode b_Lo_arrive 96 = .ok (.ldc2_w 95, 3) := by decide +kernel
theorem d_Lo_arrive_99 : decode b_Lo_arrive 99 = .ok (.ladd, 1) := by decide +kernel
theorem d_Lo_arrive_100 : decode b_Lo_arrive 100 = .ok (.putfield 87, 3) := by decide +kernel
theorem d_Lo_arrive_103 : decode b_Lo_arrive 103 = .ok (.aload_n 0, 1) := by decide +kernel
theorem d_Lo_arrive_104 : decode b_Lo_arrive 104 = .ok (.iconst 1, 1) := by decide +kernel
theorem d_Lo_arrive_105 : decode b_Lo_arrive 105 = .ok (.putfield 80, 3) := by decide +kernel
theorem d_Lo_arrive_108 : decode b_Lo_arrive 108 = .ok (.return_, 1) := by decide +kernel
theorem d_Lo_init_0 : decode b_Lo_init 0 = .ok (.aload_n 0, 1) := by decide +kernel
theorem d_Lo_init_1 : decode b_Lo_init 1 = .ok (.invokespecial 3, 3) := by decide +kernel
theorem d_Lo_init_4 : decode b_Lo_init 4 = .ok (.aload_n 0, 1) := by decide +kernel
theorem d_Lo_init_5 : decode b_Lo_init 5 = .ok (.iconst 4, 1) := by decide +kernel
theorem d_Lo_init_6 : decode b_Lo_init 6 = .ok (.anewarray 9, 3) := by decide +kernel
theorem d_Lo_init_9 : decode b_Lo_init 9 = .ok (.putfield 11, 3) := by decide +kernel
theorem d_Lo_init_12 : decode b_Lo_init 12 = .ok (.aload_n 0, 1) := by decide +kernel
theorem d_Lo_init_13 : decode b_Lo_init 13 = .ok (.aload_n 1, 1) := by decide +kernel
theorem d_Lo_init_14 : decode b_Lo_init 14 = .ok (.putfield 17, 3) := by decide +kernel
theorem d_Lo_init_17 : decode b_Lo_init 17 = .ok (.aload_n 0, 1) := by decide +kernel
theorem d_Lo_init_18 : decode b_Lo_init 18 = .ok (.iload_n 2, 1) := by decide +kernel
theorem d_Lo_init_19 : decode b_Lo_init 19 = .ok (.putfield 21, 3) := by decide +kernel
theorem d_Lo_init_22 : decode b_Lo_init 22 = .ok (.aload_n 0, 1) := by decide +kernel
theorem d_Lo_init_23 : decode b_Lo_init 23 = .ok (.lload_n 3, 1) := by decide +kernel
theorem d_Lo_init_24 : decode b_Lo_init 24 = .ok (.putfield 25, 3) := by decide +kernel
theorem d_Lo_init_27 : decode b_Lo_init 27 = .ok (.aload_n 0, 1) := by decide +kernel
theorem d_Lo_init_28 : decode b_Lo_init 28 = .ok (.iload 5, 2) := by decide +kernel
theorem d_Lo_init_30 : decode b_Lo_init 30 = .ok (.putfield 29, 3) := by decide +kernel
theorem d_Lo_init_33 : decode b_Lo_init 33 = .ok (.aload_n 0, 1) := by decide +kernel
theorem d_Lo_init_34 : decode b_Lo_init 34 = .ok (.iconst 0, 1) := by decide +kernel
theorem d_Lo_init_35 : decode b_Lo_init 35 = .ok (.putfield 32, 3) := by decide +kernel
theorem d_Lo_init_38 : decode b_Lo_init 38 = .ok (.aload_n 0, 1) := by decide +kernel
theorem d_Lo_init_39 : decode b_Lo_init 39 = .ok (.iconst (-1), 1) := by decide +kernel
theorem d_Lo_init_40 : decode b_Lo_init 40 = .ok (.putfield 35, 3) := by decide +kernel
theorem d_Lo_init_43 : decode b_Lo_init 43 = .ok (.aload_n 0, 1) := by decide +kernel
theorem d_Lo_init_44 : decode b_Lo_init 44 = .ok (.iconst (-1), 1) := by decide +kernel
theorem d_Lo_init_45 : decode b_Lo_init 45 = .ok (.putfield 38, 3) := by decide +kernel
theorem d_Lo_init_48 : decode b_Lo_init 48 = .ok (.return_, 1) := by decide +kernel
theorem d_Lo_canGoOnBy_0 : decode b_Lo_canGoOnBy 0 = .ok (.aload_n 1, 1) := by decide +kernel
theorem d_Lo_canGoOnBy_1 : decode b_Lo_canGoOnBy 1 = .ok (.getfield 44, 3) := by decide +kernel
theorem d_Lo_canGoOnBy_4 : decode b_Lo_canGoOnBy 4 = .ok (.aload_n 0, 1) := by decide +kernel
theorem d_Lo_canGoOnBy_5 : decode b_Lo_canGoOnBy 5 = .ok (.getfield 17, 3) := by decide +kernel
theorem d_Lo_canGoOnBy_8 : decode b_Lo_canGoOnBy 8 = .ok (.getfield 41, 3) := by decide +kernel
theorem d_Lo_canGoOnBy_11 : decode b_Lo_canGoOnBy 11 = .ok (.if_icmp .ne 33, 3) := by decide +kernel
theorem d_Lo_canGoOnBy_14 : decode b_Lo_canGoOnBy 14 = .ok (.aload_n 1, 1) := by decide +kernel
theorem d_Lo_canGoOnBy_15 : decode b_Lo_canGoOnBy 15 = .ok (.getfield 41, 3) := by decide +kernel
theorem d_Lo_canGoOnBy_18 : decode b_Lo_canGoOnBy 18 = .ok (.aload_n 0, 1) := by decide +kernel
theorem d_Lo_canGoOnBy_19 : decode b_Lo_canGoOnBy 19 = .ok (.getfield 21, 3) := by decide +kernel
theorem d_Lo_canGoOnBy_22 : decode b_Lo_canGoOnBy 22 = .ok (.if_icmp .ne 22, 3) := by decide +kernel
theorem d_Lo_canGoOnBy_25 : decode b_Lo_canGoOnBy 25 = .ok (.aload_n 1, 1) := by decide +kernel
theorem d_Lo_canGoOnBy_26 : decode b_Lo_canGoOnBy 26 = .ok (.getfield 47, 3) := by decide +kernel
theorem d_Lo_canGoOnBy_29 : decode b_Lo_canGoOnBy 29 = .ok (.aload_n 0, 1) := by decide +kernel
theorem d_Lo_canGoOnBy_30 : decode b_Lo_canGoOnBy 30 = .ok (.getfield 17, 3) := by decide +kernel
theorem d_Lo_canGoOnBy_33 : decode b_Lo_canGoOnBy 33 = .ok (.getfield 47, 3) := by decide +kernel
theorem d_Lo_canGoOnBy_36 : decode b_Lo_canGoOnBy 36 = .ok (.lcmp, 1) := by decide +kernel
theorem d_Lo_canGoOnBy_37 : decode b_Lo_canGoOnBy 37 = .ok (.ifCond .le 7, 3) := by decide +kernel
theorem d_Lo_canGoOnBy_40 : decode b_Lo_canGoOnBy 40 = .ok (.iconst 1, 1) := by decide +kernel
theorem d_Lo_canGoOnBy_41 : decode b_Lo_canGoOnBy 41 = .ok (.goto 4, 3) := by decide +kernel
theorem d_Lo_canGoOnBy_44 : decode b_Lo_canGoOnBy 44 = .ok (.iconst 0, 1) := by decide +kernel
theorem d_Lo_canGoOnBy_45 : decode b_Lo_canGoOnBy 45 = .ok (.ireturn, 1) := by decide +kernel
theorem d_Lo_hasRoom_0 : decode b_Lo_hasRoom 0 = .ok (.aload_n 0, 1) := by decide +kernel
theorem d_Lo_hasRoom_1 : decode b_Lo_hasRoom 1 = .ok (.getfield 32, 3) := by decide +kernel
theorem d_Lo_hasRoom_4 : decode b_Lo_hasRoom 4 = .ok (.aload_n 0, 1) := by decide +kernel
theorem d_Lo_hasRoom_5 : decode b_Lo_hasRoom 5 = .ok (.getfield 11, 3) := by decide +kernel
theorem d_Lo_hasRoom_8 : decode b_Lo_hasRoom 8 = .ok (.arraylength, 1) := by decide +kernel
theorem d_Lo_hasRoom_9 : decode b_Lo_hasRoom 9 = .ok (.if_icmp .ge 7, 3) := by decide +kernel
theorem d_Lo_hasRoom_12 : decode b_Lo_hasRoom 12 = .ok (.iconst 1, 1) := by decide +kernel
theorem d_Lo_hasRoom_13 : decode b_Lo_hasRoom 13 = .ok (.goto 4, 3) := by decide +kernel
theorem d_Lo_hasRoom_16 : decode b_Lo_hasRoom 16 = .ok (.iconst 0, 1) := by decide +kernel
theorem d_Lo_hasRoom_17 : decode b_Lo_hasRoom 17 = .ok (.ireturn, 1) := by decide +kernel
theorem d_Lo_addOption_0 : decode b_Lo_addOption 0 = .ok (.aload_n 0, 1) := by decide +kernel
theorem d_Lo_addOption_1 : decode b_Lo_addOption 1 = .ok (.invokevirtual 50, 3) := by decide +kernel
theorem d_Lo_addOption_4 : decode b_Lo_addOption 4 = .ok (.ifCond .ne 5, 3) := by decide +kernel
theorem d_Lo_addOption_7 : decode b_Lo_addOption 7 = .ok (.iconst (-1), 1) := by decide +kernel
theorem d_Lo_addOption_8 : decode b_Lo_addOption 8 = .ok (.ireturn, 1) := by decide +kernel
theorem d_Lo_addOption_9 : decode b_Lo_addOption 9 = .ok (.aload_n 0, 1) := by decide +kernel
theorem d_Lo_addOption_10 : decode b_Lo_addOption 10 = .ok (.getfield 11, 3) := by decide +kernel
theorem d_Lo_addOption_13 : decode b_Lo_addOption 13 = .ok (.aload_n 0, 1) := by decide +kernel
theorem d_Lo_addOption_14 : decode b_Lo_addOption 14 = .ok (.getfield 32, 3) := by decide +kernel
theorem d_Lo_addOption_17 : decode b_Lo_addOption 17 = .ok (.aload_n 1, 1) := by decide +kernel
theorem d_Lo_addOption_18 : decode b_Lo_addOption 18 = .ok (.aastore, 1) := by decide +kernel
theorem d_Lo_addOption_19 : decode b_Lo_addOption 19 = .ok (.aload_n 0, 1) := by decide +kernel
theorem d_Lo_addOption_20 : decode b_Lo_addOption 20 = .ok (.dup, 1) := by decide +kernel
theorem d_Lo_addOption_21 : decode b_Lo_addOption 21 = .ok (.getfield 32, 3) := by decide +kernel
theorem d_Lo_addOption_24 : decode b_Lo_addOption 24 = .ok (.iconst 1, 1) := by decide +kernel
theorem d_Lo_addOption_25 : decode b_Lo_addOption 25 = .ok (.iadd, 1) := by decide +kernel
theorem d_Lo_addOption_26 : decode b_Lo_addOption 26 = .ok (.putfield 32, 3) := by decide +kernel
theorem d_Lo_addOption_29 : decode b_Lo_addOption 29 = .ok (.aload_n 0, 1) := by decide +kernel
theorem d_Lo_addOption_30 : decode b_Lo_addOption 30 = .ok (.getfield 35, 3) := by decide +kernel
theorem d_Lo_addOption_33 : decode b_Lo_addOption 33 = .ok (.ifCond .ge 8, 3) := by decide +kernel
theorem d_Lo_addOption_36 : decode b_Lo_addOption 36 = .ok (.aload_n 0, 1) := by decide +kernel
theorem d_Lo_addOption_37 : decode b_Lo_addOption 37 = .ok (.iconst 0, 1) := by decide +kernel
theorem d_Lo_addOption_38 : decode b_Lo_addOption 38 = .ok (.putfield 35, 3) := by decide +kernel
theorem d_Lo_addOption_41 : decode b_Lo_addOption 41 = .ok (.aload_n 0, 1) := by decide +kernel
theorem d_Lo_addOption_42 : decode b_Lo_addOption 42 = .ok (.getfield 32, 3) := by decide +kernel
theorem d_Lo_addOption_45 : decode b_Lo_addOption 45 = .ok (.iconst 1, 1) := by decide +kernel
theorem d_Lo_addOption_46 : decode b_Lo_addOption 46 = .ok (.isub, 1) := by decide +kernel
theorem d_Lo_addOption_47 : decode b_Lo_addOption 47 = .ok (.ireturn, 1) := by decide +kernel
theorem d_Lo_minutesBehind_0 : decode b_Lo_minutesBehind 0 = .ok (.lconst 0, 1) := by decide +kernel
theorem d_Lo_minutesBehind_1 : decode b_Lo_minutesBehind 1 = .ok (.aload_n 0, 1) := by decide +kernel
theorem d_Lo_minutesBehind_2 : decode b_Lo_minutesBehind 2 = .ok (.getfield 87, 3) := by decide +kernel
theorem d_Lo_minutesBehind_5 : decode b_Lo_minutesBehind 5 = .ok (.aload_n 0, 1) := by decide +kernel
theorem d_Lo_minutesBehind_6 : decode b_Lo_minutesBehind 6 = .ok (.getfield 25, 3) := by decide +kernel
theorem d_Lo_minutesBehind_9 : decode b_Lo_minutesBehind 9 = .ok (.lsub, 1) := by decide +kernel
theorem d_Lo_minutesBehind_10 : decode b_Lo_minutesBehind 10 = .ok (.invokestatic 103, 3) := by decide +kernel
theorem d_Lo_minutesBehind_13 : decode b_Lo_minutesBehind 13 = .ok (.lreturn, 1) := by decide +kernel
theorem d_Lo_rememberArrival_0 : decode b_Lo_rememberArrival 0 = .ok (.aload_n 0, 1) := by decide +kernel
theorem d_Lo_rememberArrival_1 : decode b_Lo_rememberArrival 1 = .ok (.aload_n 0, 1) := by decide +kernel
theorem d_Lo_rememberArrival_2 : decode b_Lo_rememberArrival 2 = .ok (.getfield 87, 3) := by decide +kernel
theorem d_Lo_rememberArrival_5 : decode b_Lo_rememberArrival 5 = .ok (.putfield 100, 3) := by decide +kernel
theorem d_Lo_rememberArrival_8 : decode b_Lo_rememberArrival 8 = .ok (.return_, 1) := by decide +kernel
theorem d_Lo_concerns_0 : decode b_Lo_concerns 0 = .ok (.aload_n 0, 1) := by decide +kernel
theorem d_Lo_concerns_1 : decode b_Lo_concerns 1 = .ok (.getfield 17, 3) := by decide +kernel
theorem d_Lo_concerns_4 : decode b_Lo_concerns 4 = .ok (.getfield 54, 3) := by decide +kernel
theorem d_Lo_concerns_7 : decode b_Lo_concerns 7 = .ok (.aload_n 1, 1) := by decide +kernel
theorem d_Lo_concerns_8 : decode b_Lo_concerns 8 = .ok (.getfield 54, 3) := by decide +kernel
theorem d_Lo_concerns_11 : decode b_Lo_concerns 11 = .ok (.if_icmp .ne 5, 3) := by decide +kernel
theorem d_Lo_concerns_14 : decode b_Lo_concerns 14 = .ok (.iconst 1, 1) := by decide +kernel
theorem d_Lo_concerns_15 : decode b_Lo_concerns 15 = .ok (.ireturn, 1) := by decide +kernel
theorem d_Lo_concerns_16 : decode b_Lo_concerns 16 = .ok (.iconst 0, 1) := by decide +kernel
theorem d_Lo_concerns_17 : decode b_Lo_concerns 17 = .ok (.istore_n 2, 1) := by decide +kernel
theorem d_Lo_concerns_18 : decode b_Lo_concerns 18 = .ok (.iload_n 2, 1) := by decide +kernel
theorem d_Lo_concerns_19 : decode b_Lo_concerns 19 = .ok (.aload_n 0, 1) := by decide +kernel
theorem d_Lo_concerns_20 : decode b_Lo_concerns 20 = .ok (.getfield 32, 3) := by decide +kernel
theorem d_Lo_concerns_23 : decode b_Lo_concerns 23 = .ok (.if_icmp .ge 36, 3) := by decide +kernel
theorem d_Lo_concerns_26 : decode b_Lo_concerns 26 = .ok (.aload_n 0, 1) := by decide +kernel
theorem d_Lo_concerns_27 : decode b_Lo_concerns 27 = .ok (.getfield 11, 3) := by decide +kernel
theorem d_Lo_concerns_30 : decode b_Lo_concerns 30 = .ok (.iload_n 2, 1) := by decide +kernel
theorem d_Lo_concerns_31 : decode b_Lo_concerns 31 = .ok (.aaload, 1) := by decide +kernel
theorem d_Lo_concerns_32 : decode b_Lo_concerns 32 = .ok (.getfield 57, 3) := by decide +kernel
theorem d_Lo_concerns_35 : decode b_Lo_concerns 35 = .ok (.astore_n 3, 1) := by decide +kernel
theorem d_Lo_concerns_36 : decode b_Lo_concerns 36 = .ok (.aload_n 3, 1) := by decide +kernel
theorem d_Lo_concerns_37 : decode b_Lo_concerns 37 = .ok (.ifnull 16, 3) := by decide +kernel
theorem d_Lo_concerns_40 : decode b_Lo_concerns 40 = .ok (.aload_n 3, 1) := by decide +kernel
theorem d_Lo_concerns_41 : decode b_Lo_concerns 41 = .ok (.getfield 54, 3) := by decide +kernel
theorem d_Lo_concerns_44 : decode b_Lo_concerns 44 = .ok (.aload_n 1, 1) := by decide +kernel
theorem d_Lo_concerns_45 : decode b_Lo_concerns 45 = .ok (.getfield 54, 3) := by decide +kernel
theorem d_Lo_concerns_48 : decode b_Lo_concerns 48 = .ok (.if_icmp .ne 5, 3) := by decide +kernel
theorem d_Lo_concerns_51 : decode b_Lo_concerns 51 = .ok (.iconst 1, 1) := by decide +kernel
theorem d_Lo_concerns_52 : decode b_Lo_concerns 52 = .ok (.ireturn, 1) := by decide +kernel
theorem d_Lo_concerns_53 : decode b_Lo_concerns 53 = .ok (.iinc 2 1, 3) := by decide +kernel
theorem d_Lo_concerns_56 : decode b_Lo_concerns 56 = .ok (.goto (-38), 3) := by decide +kernel
theorem d_Lo_concerns_59 : decode b_Lo_concerns 59 = .ok (.iconst 0, 1) := by decide +kernel
theorem d_Lo_concerns_60 : decode b_Lo_concerns 60 = .ok (.ireturn, 1) := by decide +kernel
theorem d_Lo_pickFirst_0 : decode b_Lo_pickFirst 0 = .ok (.aload_n 0, 1) := by decide +kernel
theorem d_Lo_pickFirst_1 : decode b_Lo_pickFirst 1 = .ok (.aload_n 0, 1) := by decide +kernel
theorem d_Lo_pickFirst_2 : decode b_Lo_pickFirst 2 = .ok (.getfield 32, 3) := by decide +kernel
theorem d_Lo_pickFirst_5 : decode b_Lo_pickFirst 5 = .ok (.ifCond .le 7, 3) := by decide +kernel
theorem d_Lo_pickFirst_8 : decode b_Lo_pickFirst 8 = .ok (.iconst 0, 1) := by decide +kernel
theorem d_Lo_pickFirst_9 : decode b_Lo_pickFirst 9 = .ok (.goto 4, 3) := by decide +kernel
theorem d_Lo_pickFirst_12 : decode b_Lo_pickFirst 12 = .ok (.iconst (-1), 1) := by decide +kernel
theorem d_Lo_pickFirst_13 : decode b_Lo_pickFirst 13 = .ok (.putfield 35, 3) := by decide +kernel
theorem d_Lo_pickFirst_16 : decode b_Lo_pickFirst 16 = .ok (.return_, 1) := by decide +kernel
theorem d_Lo_hasMoved_0 : decode b_Lo_hasMoved 0 = .ok (.aload_n 0, 1) := by decide +kernel
theorem d_Lo_hasMoved_1 : decode b_Lo_hasMoved 1 = .ok (.getfield 87, 3) := by decide +kernel
theorem d_Lo_hasMoved_4 : decode b_Lo_hasMoved 4 = .ok (.aload_n 0, 1) := by decide +kernel
theorem d_Lo_hasMoved_5 : decode b_Lo_hasMoved 5 = .ok (.getfield 100, 3) := by decide +kernel
theorem d_Lo_hasMoved_8 : decode b_Lo_hasMoved 8 = .ok (.lcmp, 1) := by decide +kernel
theorem d_Lo_hasMoved_9 : decode b_Lo_hasMoved 9 = .ok (.ifCond .eq 7, 3) := by decide +kernel
theorem d_Lo_hasMoved_12 : decode b_Lo_hasMoved 12 = .ok (.iconst 1, 1) := by decide +kernel
theorem d_Lo_hasMoved_13 : decode b_Lo_hasMoved 13 = .ok (.goto 4, 3) := by decide +kernel
theorem d_Lo_hasMoved_16 : decode b_Lo_hasMoved 16 = .ok (.iconst 0, 1) := by decide +kernel
theorem d_Lo_hasMoved_17 : decode b_Lo_hasMoved 17 = .ok (.ireturn, 1) := by decide +kernel
theorem d_Lo_harm_0 : decode b_Lo_harm 0 = .ok (.aload_n 0, 1) := by decide +kernel
theorem d_Lo_harm_1 : decode b_Lo_harm 1 = .ok (.invokevirtual 67, 3) := by decide +kernel
theorem d_Lo_harm_4 : decode b_Lo_harm 4 = .ok (.astore_n 1, 1) := by decide +kernel
theorem d_Lo_harm_5 : decode b_Lo_harm 5 = .ok (.aload_n 0, 1) := by decide +kernel
theorem d_Lo_harm_6 : decode b_Lo_harm 6 = .ok (.getfield 29, 3) := by decide +kernel
theorem d_Lo_harm_9 : decode b_Lo_harm 9 = .ok (.i2l, 1) := by decide +kernel
theorem d_Lo_harm_10 : decode b_Lo_harm 10 = .ok (.aload_n 0, 1) := by decide +kernel
theorem d_Lo_harm_11 : decode b_Lo_harm 11 = .ok (.invokevirtual 109, 3) := by decide +kernel
theorem d_Lo_harm_14 : decode b_Lo_harm 14 = .ok (.lmul, 1) := by decide +kernel
theorem d_Lo_harm_15 : decode b_Lo_harm 15 = .ok (.aload_n 1, 1) := by decide +kernel
theorem d_Lo_harm_16 : decode b_Lo_harm 16 = .ok (.ifnonnull 7, 3) := by decide +kernel
theorem d_Lo_harm_19 : decode b_Lo_harm 19 = .ok (.lconst 0, 1) := by decide +kernel
theorem d_Lo_harm_20 : decode b_Lo_harm 20 = .ok (.goto 7, 3) := by decide +kernel
theorem d_Lo_harm_23 : decode b_Lo_harm 23 = .ok (.aload_n 1, 1) := by decide +kernel
theorem d_Lo_harm_24 : decode b_Lo_harm 24 = .ok (.getfield 112, 3) := by decide +kernel
theorem d_Lo_harm_27 : decode b_Lo_harm 27 = .ok (.ladd, 1) := by decide +kernel
theorem d_Lo_harm_28 : decode b_Lo_harm 28 = .ok (.lreturn, 1) := by decide +kernel
theorem d_Lo_isAct_0 : decode b_Lo_isAct 0 = .ok (.aload_n 0, 1) := by decide +kernel
theorem d_Lo_isAct_1 : decode b_Lo_isAct 1 = .ok (.invokevirtual 67, 3) := by decide +kernel
theorem d_Lo_isAct_4 : decode b_Lo_isAct 4 = .ok (.astore_n 1, 1) := by decide +kernel
theorem d_Lo_isAct_5 : decode b_Lo_isAct 5 = .ok (.aload_n 1, 1) := by decide +kernel
theorem d_Lo_isAct_6 : decode b_Lo_isAct 6 = .ok (.ifnull 14, 3) := by decide +kernel
theorem d_Lo_isAct_9 : decode b_Lo_isAct 9 = .ok (.aload_n 1, 1) := by decide +kernel
theorem d_Lo_isAct_10 : decode b_Lo_isAct 10 = .ok (.getfield 71, 3) := by decide +kernel
theorem d_Lo_isAct_13 : decode b_Lo_isAct 13 = .ok (.ifCond .eq 7, 3) := by decide +kernel
theorem d_Lo_isAct_16 : decode b_Lo_isAct 16 = .ok (.iconst 1, 1) := by decide +kernel
theorem d_Lo_isAct_17 : decode b_Lo_isAct 17 = .ok (.goto 4, 3) := by decide +kernel
theorem d_Lo_isAct_20 : decode b_Lo_isAct 20 = .ok (.iconst 0, 1) := by decide +kernel
theorem d_Lo_isAct_21 : decode b_Lo_isAct 21 = .ok (.ireturn, 1) := by decide +kernel
theorem d_Lo_keepPicked_0 : decode b_Lo_keepPicked 0 = .ok (.aload_n 0, 1) := by decide +kernel
theorem d_Lo_keepPicked_1 : decode b_Lo_keepPicked 1 = .ok (.aload_n 0, 1) := by decide +kernel
theorem d_Lo_keepPicked_2 : decode b_Lo_keepPicked 2 = .ok (.getfield 35, 3) := by decide +kernel
theorem d_Lo_keepPicked_5 : decode b_Lo_keepPicked 5 = .ok (.putfield 38, 3) := by decide +kernel
theorem d_Lo_keepPicked_8 : decode b_Lo_keepPicked 8 = .ok (.return_, 1) := by decide +kernel
theorem d_Lo_pickNext_0 : decode b_Lo_pickNext 0 = .ok (.aload_n 0, 1) := by decide +kernel
theorem d_Lo_pickNext_1 : decode b_Lo_pickNext 1 = .ok (.getfield 35, 3) := by decide +kernel
theorem d_Lo_pickNext_4 : decode b_Lo_pickNext 4 = .ok (.iconst 1, 1) := by decide +kernel
theorem d_Lo_pickNext_5 : decode b_Lo_pickNext 5 = .ok (.iadd, 1) := by decide +kernel
theorem d_Lo_pickNext_6 : decode b_Lo_pickNext 6 = .ok (.aload_n 0, 1) := by decide +kernel
theorem d_Lo_pickNext_7 : decode b_Lo_pickNext 7 = .ok (.getfield 32, 3) := by decide +kernel
theorem d_Lo_pickNext_10 : decode b_Lo_pickNext 10 = .ok (.if_icmp .lt 5, 3) := by decide +kernel
theorem d_Lo_pickNext_13 : decode b_Lo_pickNext 13 = .ok (.iconst 0, 1) := by decide +kernel
theorem d_Lo_pickNext_14 : decode b_Lo_pickNext 14 = .ok (.ireturn, 1) := by decide +kernel
theorem d_Lo_pickNext_15 : decode b_Lo_pickNext 15 = .ok (.aload_n 0, 1) := by decide +kernel
theorem d_Lo_pickNext_16 : decode b_Lo_pickNext 16 = .ok (.dup, 1) := by decide +kernel
theorem d_Lo_pickNext_17 : decode b_Lo_pickNext 17 = .ok (.getfield 35, 3) := by decide +kernel
theorem d_Lo_pickNext_20 : decode b_Lo_pickNext 20 = .ok (.iconst 1, 1) := by decide +kernel
theorem d_Lo_pickNext_21 : decode b_Lo_pickNext 21 = .ok (.iadd, 1) := by decide +kernel
theorem d_Lo_pickNext_22 : decode b_Lo_pickNext 22 = .ok (.putfield 35, 3) := by decide +kernel
theorem d_Lo_pickNext_25 : decode b_Lo_pickNext 25 = .ok (.iconst 1, 1) := by decide +kernel
theorem d_Lo_pickNext_26 : decode b_Lo_pickNext 26 = .ok (.ireturn, 1) := by decide +kernel
theorem d_Lo_takeKept_0 : decode b_Lo_takeKept 0 = .ok (.aload_n 0, 1) := by decide +kernel
theorem d_Lo_takeKept_1 : decode b_Lo_takeKept 1 = .ok (.aload_n 0, 1) := by decide +kernel
theorem d_Lo_takeKept_2 : decode b_Lo_takeKept 2 = .ok (.getfield 38, 3) := by decide +kernel
theorem d_Lo_takeKept_5 : decode b_Lo_takeKept 5 = .ok (.putfield 35, 3) := by decide +kernel
theorem d_Lo_takeKept_8 : decode b_Lo_takeKept 8 = .ok (.return_, 1) := by decide +kernel
end
section
theorem d_LR_init_0 : decode b_LR_init 0 = .ok (.aload_n 0, 1) := by decide +kernel
theorem d_LR_init_1 : decode b_LR_init 1 = .ok (.invokespecial 1, 3) := by decide +kernel
theorem d_LR_init_4 : decode b_LR_init 4 = .ok (.aload_n 0, 1) := by decide +kernel
theorem d_LR_init_5 : decode b_LR_init 5 = .ok (.bipush 12, 2) := by decide +kernel
theorem d_LR_init_7 : decode b_LR_init 7 = .ok (.anewarray 9, 3) := by decide +kernel
theorem d_LR_init_10 : decode b_LR_init 10 = .ok (.putfield 11, 3) := by decide +kernel
theorem d_LR_init_13 : decode b_LR_init 13 = .ok (.aload_n 0, 1) := by decide +kernel
theorem d_LR_init_14 : decode b_LR_init 14 = .ok (.bipush 6, 2) := by decide +kernel
theorem d_LR_init_16 : decode b_LR_init 16 = .ok (.anewarray 15, 3) := by decide +kernel
theorem d_LR_init_19 : decode b_LR_init 19 = .ok (.putfield 17, 3) := by decide +kernel
theorem d_LR_init_22 : decode b_LR_init 22 = .ok (.aload_n 0, 1) := by decide +kernel
theorem d_LR_init_23 : decode b_LR_init 23 = .ok (.bipush 6, 2) := by decide +kernel
theorem d_LR_init_25 : decode b_LR_init 25 = .ok (.anewarray 15, 3) := by decide +kernel
theorem d_LR_init_28 : decode b_LR_init 28 = .ok (.putfield 21, 3) := by decide +kernel
theorem d_LR_init_31 : decode b_LR_init 31 = .ok (.aload_n 0, 1) := by decide +kernel
theorem d_LR_init_32 : decode b_LR_init 32 = .ok (.iconst 0, 1) := by decide +kernel
theorem d_LR_init_33 : decode b_LR_init 33 = .ok (.putfield 24, 3) := by decide +kernel
theorem d_LR_init_36 : decode b_LR_init 36 = .ok (.aload_n 0, 1) := by decide +kernel
theorem d_LR_init_37 : decode b_LR_init 37 = .ok (.iconst 0, 1) := by decide +kernel
theorem d_LR_init_38 : decode b_LR_init 38 = .ok (.putfield 28, 3) := by decide +kernel
theorem d_LR_init_41 : decode b_LR_init 41 = .ok (.return_, 1) := by decide +kernel
theorem d_LR_isWithin_0 : decode b_LR_isWithin 0 = .ok (.lload_n 0, 1) := by decide +kernel
theorem d_LR_isWithin_1 : decode b_LR_isWithin 1 = .ok (.lload_n 2, 1) := by decide +kernel
theorem d_LR_isWithin_2 : decode b_LR_isWithin 2 = .ok (.lcmp, 1) := by decide +kernel
theorem d_LR_isWithin_3 : decode b_LR_isWithin 3 = .ok (.ifCond .lt 14, 3) := by decide +kernel
theorem d_LR_isWithin_6 : decode b_LR_isWithin 6 = .ok (.lload_n 0, 1) := by decide +kernel
theorem d_LR_isWithin_7 : decode b_LR_isWithin 7 = .ok (.lload 4, 2) := by decide +kernel
theorem d_LR_isWithin_9 : decode b_LR_isWithin 9 = .ok (.lcmp, 1) := by decide +kernel
theorem d_LR_isWithin_10 : decode b_LR_isWithin 10 = .ok (.ifCond .gt 7, 3) := by decide +kernel
theorem d_LR_isWithin_13 : decode b_LR_isWithin 13 = .ok (.iconst 1, 1) := by decide +kernel
theorem d_LR_isWithin_14 : decode b_LR_isWithin 14 = .ok (.goto 4, 3) := by decide +kernel
theorem d_LR_isWithin_17 : decode b_LR_isWithin 17 = .ok (.iconst 0, 1) := by decide +kernel
theorem d_LR_isWithin_18 : decode b_LR_isWithin 18 = .ok (.ireturn, 1) := by decide +kernel
theorem d_LR_isPlace_0 : decode b_LR_isPlace 0 = .ok (.iload_n 0, 1) := by decide +kernel
theorem d_LR_isPlace_1 : decode b_LR_isPlace 1 = .ok (.i2l, 1) := by decide +kernel
theorem d_LR_isPlace_2 : decode b_LR_isPlace 2 = .ok (.lconst 0, 1) := by decide +kernel
theorem d_LR_isPlace_3 : decode b_LR_isPlace 3 = .ok (.ldc2_w 150, 3) := by decide +kernel
theorem d_LR_isPlace_6 : decode b_LR_isPlace 6 = .ok (.invokestatic 37, 3) := by decide +kernel
theorem d_LR_isPlace_9 : decode b_LR_isPlace 9 = .ok (.ireturn, 1) := by decide +kernel
theorem d_LR_settle_0 : decode b_LR_settle 0 = .ok (.iconst 0, 1) := by decide +kernel
theorem d_LR_settle_1 : decode b_LR_settle 1 = .ok (.istore_n 1, 1) := by decide +kernel
theorem d_LR_settle_2 : decode b_LR_settle 2 = .ok (.iload_n 1, 1) := by decide +kernel
theorem d_LR_settle_3 : decode b_LR_settle 3 = .ok (.aload_n 0, 1) := by decide +kernel
theorem d_LR_settle_4 : decode b_LR_settle 4 = .ok (.getfield 24, 3) := by decide +kernel
theorem d_LR_settle_7 : decode b_LR_settle 7 = .ok (.if_icmp .ge 18, 3) := by decide +kernel
theorem d_LR_settle_10 : decode b_LR_settle 10 = .ok (.aload_n 0, 1) := by decide +kernel
theorem d_LR_settle_11 : decode b_LR_settle 11 = .ok (.getfield 11, 3) := by decide +kernel
theorem d_LR_settle_14 : decode b_LR_settle 14 = .ok (.iload_n 1, 1) := by decide +kernel
theorem d_LR_settle_15 : decode b_LR_settle 15 = .ok (.aaload, 1) := by decide +kernel
theorem d_LR_settle_16 : decode b_LR_settle 16 = .ok (.invokevirtual 159, 3) := by decide +kernel
theorem d_LR_settle_19 : decode b_LR_settle 19 = .ok (.iinc 1 1, 3) := by decide +kernel
theorem d_LR_settle_22 : decode b_LR_settle 22 = .ok (.goto (-20), 3) := by decide +kernel
theorem d_LR_settle_25 : decode b_LR_settle 25 = .ok (.iconst 0, 1) := by decide +kernel
theorem d_LR_settle_26 : decode b_LR_settle 26 = .ok (.istore_n 1, 1) := by decide +kernel
theorem d_LR_settle_27 : decode b_LR_settle 27 = .ok (.iload_n 1, 1) := by decide +kernel
theorem d_LR_settle_28 : decode b_LR_settle 28 = .ok (.aload_n 0, 1) := by decide +kernel
theorem d_LR_settle_29 : decode b_LR_settle 29 = .ok (.getfield 28, 3) := by decide +kernel
theorem d_LR_settle_32 : decode b_LR_settle 32 = .ok (.if_icmp .ge 18, 3) := by decide +kernel
theorem d_LR_settle_35 : decode b_LR_settle 35 = .ok (.aload_n 0, 1) := by decide +kernel
theorem d_LR_settle_36 : decode b_LR_settle 36 = .ok (.getfield 21, 3) := by decide +kernel
theorem d_LR_settle_39 : decode b_LR_settle 39 = .ok (.iload_n 1, 1) := by decide +kernel
theorem d_LR_settle_40 : decode b_LR_settle 40 = .ok (.aaload, 1) := by decide +kernel
theorem d_LR_settle_41 : decode b_LR_settle 41 = .ok (.invokevirtual 162, 3) := by decide +kernel
theorem d_LR_settle_44 : decode b_LR_settle 44 = .ok (.iinc 1 1, 3) := by decide +kernel
theorem d_LR_settle_47 : decode b_LR_settle 47 = .ok (.goto (-20), 3) := by decide +kernel
theorem d_LR_settle_50 : decode b_LR_settle 50 = .ok (.iconst 0, 1) := by decide +kernel
theorem d_LR_settle_51 : decode b_LR_settle 51 = .ok (.istore_n 1, 1) := by decide +kernel
theorem d_LR_settle_52 : decode b_LR_settle 52 = .ok (.iload_n 1, 1) := by decide +kernel
theorem d_LR_settle_53 : decode b_LR_settle 53 = .ok (.aload_n 0, 1) := by decide +kernel
theorem d_LR_settle_54 : decode b_LR_settle 54 = .ok (.getfield 28, 3) := by decide +kernel
theorem d_LR_settle_57 : decode b_LR_settle 57 = .ok (.if_icmp .ge 18, 3) := by decide +kernel
theorem d_LR_settle_60 : decode b_LR_settle 60 = .ok (.aload_n 0, 1) := by decide +kernel
theorem d_LR_settle_61 : decode b_LR_settle 61 = .ok (.getfield 17, 3) := by decide +kernel
theorem d_LR_settle_64 : decode b_LR_settle 64 = .ok (.iload_n 1, 1) := by decide +kernel
theorem d_LR_settle_65 : decode b_LR_settle 65 = .ok (.aaload, 1) := by decide +kernel
theorem d_LR_settle_66 : decode b_LR_settle 66 = .ok (.invokevirtual 165, 3) := by decide +kernel
theorem d_LR_settle_69 : decode b_LR_settle 69 = .ok (.iinc 1 1, 3) := by decide +kernel
theorem d_LR_settle_72 : decode b_LR_settle 72 = .ok (.goto (-20), 3) := by decide +kernel
theorem d_LR_settle_75 : decode b_LR_settle 75 = .ok (.return_, 1) := by decide +kernel
theorem d_LR_line_0 : decode b_LR_line 0 = .ok (.iload_n 1, 1) := by decide +kernel
theorem d_LR_line_1 : decode b_LR_line 1 = .ok (.invokestatic 31, 3) := by decide +kernel
theorem d_LR_line_4 : decode b_LR_line 4 = .ok (.ifCond .eq 15, 3) := by decide +kernel
theorem d_LR_line_7 : decode b_LR_line 7 = .ok (.iload_n 2, 1) := by decide +kernel
theorem d_LR_line_8 : decode b_LR_line 8 = .ok (.invokestatic 31, 3) := by decide +kernel
theorem d_LR_line_11 : decode b_LR_line 11 = .ok (.ifCond .eq 8, 3) := by decide +kernel
theorem d_LR_line_14 : decode b_LR_line 14 = .ok (.iload_n 1, 1) := by decide +kernel
theorem d_LR_line_15 : decode b_LR_line 15 = .ok (.iload_n 2, 1) := by decide +kernel
theorem d_LR_line_16 : decode b_LR_line 16 = .ok (.if_icmp .ne 6, 3) := by decide +kernel
theorem d_LR_line_19 : decode b_LR_line 19 = .ok (.bipush (-12), 2) := by decide +kernel
theorem d_LR_line_21 : decode b_LR_line 21 = .ok (.ireturn, 1) := by decide +kernel
theorem d_LR_line_22 : decode b_LR_line 22 = .ok (.lload_n 3, 1) := by decide +kernel
theorem d_LR_line_23 : decode b_LR_line 23 = .ok (.lconst 0, 1) := by decide +kernel
theorem d_LR_line_24 : decode b_LR_line 24 = .ok (.ldc2_w 35, 3) := by decide +kernel
theorem d_LR_line_27 : decode b_LR_line 27 = .ok (.invokestatic 37, 3) := by decide +kernel
theorem d_LR_line_30 : decode b_LR_line 30 = .ok (.ifCond .eq 22, 3) := by decide +kernel
theorem d_LR_line_33 : decode b_LR_line 33 = .ok (.lload 5, 2) := by decide +kernel
theorem d_LR_line_35 : decode b_LR_line 35 = .ok (.lconst 0, 1) := by decide +kernel
theorem d_LR_line_36 : decode b_LR_line 36 = .ok (.ldc2_w 35, 3) := by decide +kernel
theorem d_LR_line_39 : decode b_LR_line 39 = .ok (.invokestatic 37, 3) := by decide +kernel
theorem d_LR_line_42 : decode b_LR_line 42 = .ok (.ifCond .eq 10, 3) := by decide +kernel
theorem d_LR_line_45 : decode b_LR_line 45 = .ok (.lload 5, 2) := by decide +kernel
theorem d_LR_line_47 : decode b_LR_line 47 = .ok (.lload_n 3, 1) := by decide +kernel
theorem d_LR_line_48 : decode b_LR_line 48 = .ok (.lcmp, 1) := by decide +kernel
theorem d_LR_line_49 : decode b_LR_line 49 = .ok (.ifCond .gt 6, 3) := by decide +kernel
theorem d_LR_line_52 : decode b_LR_line 52 = .ok (.bipush (-12), 2) := by decide +kernel
theorem d_LR_line_54 : decode b_LR_line 54 = .ok (.ireturn, 1) := by decide +kernel
theorem d_LR_line_55 : decode b_LR_line 55 = .ok (.aload_n 0, 1) := by decide +kernel
theorem d_LR_line_56 : decode b_LR_line 56 = .ok (.getfield 24, 3) := by decide +kernel
theorem d_LR_line_59 : decode b_LR_line 59 = .ok (.aload_n 0, 1) := by decide +kernel
theorem d_LR_line_60 : decode b_LR_line 60 = .ok (.getfield 11, 3) := by decide +kernel
theorem d_LR_line_63 : decode b_LR_line 63 = .ok (.arraylength, 1) := by decide +kernel
theorem d_LR_line_64 : decode b_LR_line 64 = .ok (.if_icmp .lt 6, 3) := by decide +kernel
theorem d_LR_line_67 : decode b_LR_line 67 = .ok (.bipush (-14), 2) := by decide +kernel
theorem d_LR_line_69 : decode b_LR_line 69 = .ok (.ireturn, 1) := by decide +kernel
theorem d_LR_line_70 : decode b_LR_line 70 = .ok (.aload_n 0, 1) := by decide +kernel
theorem d_LR_line_71 : decode b_LR_line 71 = .ok (.getfield 11, 3) := by decide +kernel
theorem d_LR_line_74 : decode b_LR_line 74 = .ok (.aload_n 0, 1) := by decide +kernel
theorem d_LR_line_75 : decode b_LR_line 75 = .ok (.getfield 24, 3) := by decide +kernel
theorem d_LR_line_78 : decode b_LR_line 78 = .ok (.new 9, 3) := by decide +kernel
theorem d_LR_line_81 : decode b_LR_line 81 = .ok (.dup, 1) := by decide +kernel
theorem d_LR_line_82 : decode b_LR_line 82 = .ok (.aload_n 0, 1) := by decide +kernel
theorem d_LR_line_83 : decode b_LR_line 83 = .ok (.getfield 24, 3) := by decide +kernel
theorem d_LR_line_86 : decode b_LR_line 86 = .ok (.iconst 1, 1) := by decide +kernel
theorem d_LR_line_87 : decode b_LR_line 87 = .ok (.iadd, 1) := by decide +kernel
theorem d_LR_line_88 : decode b_LR_line 88 = .ok (.iload_n 1, 1) := by decide +kernel
theorem d_LR_line_89 : decode b_LR_line 89 = .ok (.iload_n 2, 1) := by decide +kernel
theorem d_LR_line_90 : decode b_LR_line 90 = .ok (.lload_n 3, 1) := by decide +kernel
theorem d_LR_line_91 : decode b_LR_line 91 = .ok (.lload 5, 2) := by decide +kernel
theorem d_LR_line_93 : decode b_LR_line 93 = .ok (.invokespecial 41, 3) := by decide +kernel
theorem d_LR_line_96 : decode b_LR_line 96 = .ok (.aastore, 1) := by decide +kernel
theorem d_LR_line_97 : decode b_LR_line 97 = .ok (.aload_n 0, 1) := by decide +kernel
theorem d_LR_line_98 : decode b_LR_line 98 = .ok (.dup, 1) := by decide +kernel
theorem d_LR_line_99 : decode b_LR_line 99 = .ok (.getfield 24, 3) := by decide +kernel
theorem d_LR_line_102 : decode b_LR_line 102 = .ok (.iconst 1, 1) := by decide +kernel
theorem d_LR_line_103 : decode b_LR_line 103 = .ok (.iadd, 1) := by decide +kernel
theorem d_LR_line_104 : decode b_LR_line 104 = .ok (.putfield 24, 3) := by decide +kernel
theorem d_LR_line_107 : decode b_LR_line 107 = .ok (.aload_n 0, 1) := by decide +kernel
theorem d_LR_line_108 : decode b_LR_line 108 = .ok (.invokevirtual 44, 3) := by decide +kernel
theorem d_LR_line_111 : decode b_LR_line 111 = .ok (.aload_n 0, 1) := by decide +kernel
theorem d_LR_line_112 : decode b_LR_line 112 = .ok (.getfield 24, 3) := by decide +kernel
theorem d_LR_line_115 : decode b_LR_line 115 = .ok (.ireturn, 1) := by decide +kernel
theorem d_LR_findLine_0 : decode b_LR_findLine 0 = .ok (.iload_n 1, 1) := by decide +kernel
theorem d_LR_findLine_1 : decode b_LR_findLine 1 = .ok (.iconst 1, 1) := by decide +kernel
theorem d_LR_findLine_2 : decode b_LR_findLine 2 = .ok (.if_icmp .lt 22, 3) := by decide +kernel
theorem d_LR_findLine_5 : decode b_LR_findLine 5 = .ok (.iload_n 1, 1) := by decide +kernel
theorem d_LR_findLine_6 : decode b_LR_findLine 6 = .ok (.aload_n 0, 1) := by decide +kernel
theorem d_LR_findLine_7 : decode b_LR_findLine 7 = .ok (.getfield 24, 3) := by decide +kernel
theorem d_LR_findLine_10 : decode b_LR_findLine 10 = .ok (.if_icmp .gt 14, 3) := by decide +kernel
theorem d_LR_findLine_13 : decode b_LR_findLine 13 = .ok (.aload_n 0, 1) := by decide +kernel
theorem d_LR_findLine_14 : decode b_LR_findLine 14 = .ok (.getfield 11, 3) := by decide +kernel
theorem d_LR_findLine_17 : decode b_LR_findLine 17 = .ok (.iload_n 1, 1) := by decide +kernel
theorem d_LR_findLine_18 : decode b_LR_findLine 18 = .ok (.iconst 1, 1) := by decide +kernel
theorem d_LR_findLine_19 : decode b_LR_findLine 19 = .ok (.isub, 1) := by decide +kernel
theorem d_LR_findLine_20 : decode b_LR_findLine 20 = .ok (.aaload, 1) := by decide +kernel
theorem d_LR_findLine_21 : decode b_LR_findLine 21 = .ok (.goto 4, 3) := by decide +kernel
theorem d_LR_findLine_24 : decode b_LR_findLine 24 = .ok (.aconst_null, 1) := by decide +kernel
theorem d_LR_findLine_25 : decode b_LR_findLine 25 = .ok (.areturn, 1) := by decide +kernel
theorem d_LR_fileByLeaving_0 : decode b_LR_fileByLeaving 0 = .ok (.aload_n 0, 1) := by decide +kernel
theorem d_LR_fileByLeaving_1 : decode b_LR_fileByLeaving 1 = .ok (.getfield 28, 3) := by decide +kernel
theorem d_LR_fileByLeaving_4 : decode b_LR_fileByLeaving 4 = .ok (.istore_n 2, 1) := by decide +kernel
theorem d_LR_fileByLeaving_5 : decode b_LR_fileByLeaving 5 = .ok (.iload_n 2, 1) := by decide +kernel
theorem d_LR_fileByLeaving_6 : decode b_LR_fileByLeaving 6 = .ok (.ifCond .le 48, 3) := by decide +kernel
theorem d_LR_fileByLeaving_9 : decode b_LR_fileByLeaving 9 = .ok (.aload_n 0, 1) := by decide +kernel
theorem d_LR_fileByLeaving_10 : decode b_LR_fileByLeaving 10 = .ok (.getfield 21, 3) := by decide +kernel
theorem d_LR_fileByLeaving_13 : decode b_LR_fileByLeaving 13 = .ok (.iload_n 2, 1) := by decide +kernel
theorem d_LR_fileByLeaving_14 : decode b_LR_fileByLeaving 14 = .ok (.iconst 1, 1) := by decide +kernel
theorem d_LR_fileByLeaving_15 : decode b_LR_fileByLeaving 15 = .ok (.isub, 1) := by decide +kernel
theorem d_LR_fileByLeaving_16 : decode b_LR_fileByLeaving 16 = .ok (.aaload, 1) := by decide +kernel
theorem d_LR_fileByLeaving_17 : decode b_LR_fileByLeaving 17 = .ok (.getfield 152, 3) := by decide +kernel
theorem d_LR_fileByLeaving_20 : decode b_LR_fileByLeaving 20 = .ok (.getfield 156, 3) := by decide +kernel
theorem d_LR_fileByLeaving_23 : decode b_LR_fileByLeaving 23 = .ok (.aload_n 1, 1) := by decide +kernel
theorem d_LR_fileByLeaving_24 : decode b_LR_fileByLeaving 24 = .ok (.getfield 152, 3) := by decide +kernel
theorem d_LR_fileByLeaving_27 : decode b_LR_fileByLeaving 27 = .ok (.getfield 156, 3) := by decide +kernel
theorem d_LR_fileByLeaving_30 : decode b_LR_fileByLeaving 30 = .ok (.lcmp, 1) := by decide +kernel
theorem d_LR_fileByLeaving_31 : decode b_LR_fileByLeaving 31 = .ok (.ifCond .le 23, 3) := by decide +kernel
theorem d_LR_fileByLeaving_34 : decode b_LR_fileByLeaving 34 = .ok (.aload_n 0, 1) := by decide +kernel
theorem d_LR_fileByLeaving_35 : decode b_LR_fileByLeaving 35 = .ok (.getfield 21, 3) := by decide +kernel
theorem d_LR_fileByLeaving_38 : decode b_LR_fileByLeaving 38 = .ok (.iload_n 2, 1) := by decide +kernel
theorem d_LR_fileByLeaving_39 : decode b_LR_fileByLeaving 39 = .ok (.aload_n 0, 1) := by decide +kernel
theorem d_LR_fileByLeaving_40 : decode b_LR_fileByLeaving 40 = .ok (.getfield 21, 3) := by decide +kernel
theorem d_LR_fileByLeaving_43 : decode b_LR_fileByLeaving 43 = .ok (.iload_n 2, 1) := by decide +kernel
theorem d_LR_fileByLeaving_44 : decode b_LR_fileByLeaving 44 = .ok (.iconst 1, 1) := by decide +kernel
theorem d_LR_fileByLeaving_45 : decode b_LR_fileByLeaving 45 = .ok (.isub, 1) := by decide +kernel
theorem d_LR_fileByLeaving_46 : decode b_LR_fileByLeaving 46 = .ok (.aaload, 1) := by decide +kernel
theorem d_LR_fileByLeaving_47 : decode b_LR_fileByLeaving 47 = .ok (.aastore, 1) := by decide +kernel
theorem d_LR_fileByLeaving_48 : decode b_LR_fileByLeaving 48 = .ok (.iinc 2 (-1), 3) := by decide +kernel
theorem d_LR_fileByLeaving_51 : decode b_LR_fileByLeaving 51 = .ok (.goto (-46), 3) := by decide +kernel
theorem d_LR_fileByLeaving_54 : decode b_LR_fileByLeaving 54 = .ok (.aload_n 0, 1) := by decide +kernel
theorem d_LR_fileByLeaving_55 : decode b_LR_fileByLeaving 55 = .ok (.getfield 21, 3) := by decide +kernel
theorem d_LR_fileByLeaving_58 : decode b_LR_fileByLeaving 58 = .ok (.iload_n 2, 1) := by decide +kernel
theorem d_LR_fileByLeaving_59 : decode b_LR_fileByLeaving 59 = .ok (.aload_n 1, 1) := by decide +kernel
theorem d_LR_fileByLeaving_60 : decode b_LR_fileByLeaving 60 = .ok (.aastore, 1) := by decide +kernel
theorem d_LR_fileByLeaving_61 : decode b_LR_fileByLeaving 61 = .ok (.return_, 1) := by decide +kernel
theorem d_LR_load_0 : decode b_LR_load 0 = .ok (.aload_n 0, 1) := by decide +kernel
theorem d_LR_load_1 : decode b_LR_load 1 = .ok (.iload_n 1, 1) := by decide +kernel
theorem d_LR_load_2 : decode b_LR_load 2 = .ok (.invokevirtual 47, 3) := by decide +kernel
theorem d_LR_load_5 : decode b_LR_load 5 = .ok (.astore 6, 2) := by decide +kernel
theorem d_LR_load_7 : decode b_LR_load 7 = .ok (.aload 6, 2) := by decide +kernel
theorem d_LR_load_9 : decode b_LR_load 9 = .ok (.ifnonnull 6, 3) := by decide +kernel
theorem d_LR_load_12 : decode b_LR_load 12 = .ok (.bipush (-11), 2) := by decide +kernel
theorem d_LR_load_14 : decode b_LR_load 14 = .ok (.ireturn, 1) := by decide +kernel
theorem d_LR_load_15 : decode b_LR_load 15 = .ok (.iload_n 2, 1) := by decide +kernel
theorem d_LR_load_16 : decode b_LR_load 16 = .ok (.invokestatic 31, 3) := by decide +kernel
theorem d_LR_load_19 : decode b_LR_load 19 = .ok (.ifCond .eq 27, 3) := by decide +kernel
theorem d_LR_load_22 : decode b_LR_load 22 = .ok (.lload_n 3, 1) := by decide +kernel
theorem d_LR_load_23 : decode b_LR_load 23 = .ok (.lconst 0, 1) := by decide +kernel
theorem d_LR_load_24 : decode b_LR_load 24 = .ok (.ldc2_w 51, 3) := by decide +kernel
theorem d_LR_load_27 : decode b_LR_load 27 = .ok (.invokestatic 37, 3) := by decide +kernel
theorem d_LR_load_30 : decode b_LR_load 30 = .ok (.ifCond .eq 16, 3) := by decide +kernel
theorem d_LR_load_33 : decode b_LR_load 33 = .ok (.iload 5, 2) := by decide +kernel
theorem d_LR_load_35 : decode b_LR_load 35 = .ok (.i2l, 1) := by decide +kernel
theorem d_LR_load_36 : decode b_LR_load 36 = .ok (.lconst 1, 1) := by decide +kernel
theorem d_LR_load_37 : decode b_LR_load 37 = .ok (.ldc2_w 53, 3) := by decide +kernel
theorem d_LR_load_40 : decode b_LR_load 40 = .ok (.invokestatic 37, 3) := by decide +kernel
theorem d_LR_load_43 : decode b_LR_load 43 = .ok (.ifCond .ne 6, 3) := by decide +kernel
theorem d_LR_load_46 : decode b_LR_load 46 = .ok (.bipush (-12), 2) := by decide +kernel
theorem d_LR_load_48 : decode b_LR_load 48 = .ok (.ireturn, 1) := by decide +kernel
theorem d_LR_load_49 : decode b_LR_load 49 = .ok (.aload_n 0, 1) := by decide +kernel
theorem d_LR_load_50 : decode b_LR_load 50 = .ok (.getfield 28, 3) := by decide +kernel
theorem d_LR_load_53 : decode b_LR_load 53 = .ok (.aload_n 0, 1) := by decide +kernel
theorem d_LR_load_54 : decode b_LR_load 54 = .ok (.getfield 17, 3) := by decide +kernel
theorem d_LR_load_57 : decode b_LR_load 57 = .ok (.arraylength, 1) := by decide +kernel
theorem d_LR_load_58 : decode b_LR_load 58 = .ok (.if_icmp .ge 15, 3) := by decide +kernel
theorem d_LR_load_61 : decode b_LR_load 61 = .ok (.aload_n 0, 1) := by decide +kernel
theorem d_LR_load_62 : decode b_LR_load 62 = .ok (.getfield 28, 3) := by decide +kernel
theorem d_LR_load_65 : decode b_LR_load 65 = .ok (.aload_n 0, 1) := by decide +kernel
theorem d_LR_load_66 : decode b_LR_load 66 = .ok (.getfield 21, 3) := by decide +kernel
theorem d_LR_load_69 : decode b_LR_load 69 = .ok (.arraylength, 1) := by decide +kernel
theorem d_LR_load_70 : decode b_LR_load 70 = .ok (.if_icmp .lt 6, 3) := by decide +kernel
theorem d_LR_load_73 : decode b_LR_load 73 = .ok (.bipush (-14), 2) := by decide +kernel
theorem d_LR_load_75 : decode b_LR_load 75 = .ok (.ireturn, 1) := by decide +kernel
theorem d_LR_load_76 : decode b_LR_load 76 = .ok (.new 15, 3) := by decide +kernel
theorem d_LR_load_79 : decode b_LR_load 79 = .ok (.dup, 1) := by decide +kernel
theorem d_LR_load_80 : decode b_LR_load 80 = .ok (.aload 6, 2) := by decide +kernel
theorem d_LR_load_82 : decode b_LR_load 82 = .ok (.iload_n 2, 1) := by decide +kernel
theorem d_LR_load_83 : decode b_LR_load 83 = .ok (.lload_n 3, 1) := by decide +kernel
theorem d_LR_load_84 : decode b_LR_load 84 = .ok (.iload 5, 2) := by decide +kernel
theorem d_LR_load_86 : decode b_LR_load 86 = .ok (.invokespecial 55, 3) := by decide +kernel
theorem d_LR_load_89 : decode b_LR_load 89 = .ok (.astore 7, 2) := by decide +kernel
theorem d_LR_load_91 : decode b_LR_load 91 = .ok (.aload_n 0, 1) := by decide +kernel
theorem d_LR_load_92 : decode b_LR_load 92 = .ok (.getfield 17, 3) := by decide +kernel
theorem d_LR_load_95 : decode b_LR_load 95 = .ok (.aload_n 0, 1) := by decide +kernel
theorem d_LR_load_96 : decode b_LR_load 96 = .ok (.getfield 28, 3) := by decide +kernel
theorem d_LR_load_99 : decode b_LR_load 99 = .ok (.aload 7, 2) := by decide +kernel
theorem d_LR_load_101 : decode b_LR_load 101 = .ok (.aastore, 1) := by decide +kernel
theorem d_LR_load_102 : decode b_LR_load 102 = .ok (.aload_n 0, 1) := by decide +kernel
theorem d_LR_load_103 : decode b_LR_load 103 = .ok (.aload 7, 2) := by decide +kernel
theorem d_LR_load_105 : decode b_LR_load 105 = .ok (.invokevirtual 58, 3) := by decide +kernel
theorem d_LR_load_108 : decode b_LR_load 108 = .ok (.aload_n 0, 1) := by decide +kernel
theorem d_LR_load_109 : decode b_LR_load 109 = .ok (.dup, 1) := by decide +kernel
theorem d_LR_load_110 : decode b_LR_load 110 = .ok (.getfield 28, 3) := by decide +kernel
theorem d_LR_load_113 : decode b_LR_load 113 = .ok (.iconst 1, 1) := by decide +kernel
theorem d_LR_load_114 : decode b_LR_load 114 = .ok (.iadd, 1) := by decide +kernel
theorem d_LR_load_115 : decode b_LR_load 115 = .ok (.putfield 28, 3) := by decide +kernel
theorem d_LR_load_118 : decode b_LR_load 118 = .ok (.aload_n 0, 1) := by decide +kernel
theorem d_LR_load_119 : decode b_LR_load 119 = .ok (.invokevirtual 44, 3) := by decide +kernel
theorem d_LR_load_122 : decode b_LR_load 122 = .ok (.aload_n 0, 1) := by decide +kernel
theorem d_LR_load_123 : decode b_LR_load 123 = .ok (.getfield 28, 3) := by decide +kernel
theorem d_LR_load_126 : decode b_LR_load 126 = .ok (.ireturn, 1) := by decide +kernel
theorem d_LR_findLoad_0 : decode b_LR_findLoad 0 = .ok (.iload_n 1, 1) := by decide +kernel
theorem d_LR_findLoad_1 : decode b_LR_findLoad 1 = .ok (.iconst 1, 1) := by decide +kernel
theorem d_LR_findLoad_2 : decode b_LR_findLoad 2 = .ok (.if_icmp .lt 22, 3) := by decide +kernel
theorem d_LR_findLoad_5 : decode b_LR_findLoad 5 = .ok (.iload_n 1, 1) := by decide +kernel
theorem d_LR_findLoad_6 : decode b_LR_findLoad 6 = .ok (.aload_n 0, 1) := by decide +kernel
theorem d_LR_findLoad_7 : decode b_LR_findLoad 7 = .ok (.getfield 28, 3) := by decide +kernel
theorem d_LR_findLoad_10 : decode b_LR_findLoad 10 = .ok (.if_icmp .gt 14, 3) := by decide +kernel
theorem d_LR_findLoad_13 : decode b_LR_findLoad 13 = .ok (.aload_n 0, 1) := by decide +kernel
theorem d_LR_findLoad_14 : decode b_LR_findLoad 14 = .ok (.getfield 17, 3) := by decide +kernel
theorem d_LR_findLoad_17 : decode b_LR_findLoad 17 = .ok (.iload_n 1, 1) := by decide +kernel
theorem d_LR_findLoad_18 : decode b_LR_findLoad 18 = .ok (.iconst 1, 1) := by decide +kernel
theorem d_LR_findLoad_19 : decode b_LR_findLoad 19 = .ok (.isub, 1) := by decide +kernel
theorem d_LR_findLoad_20 : decode b_LR_findLoad 20 = .ok (.aaload, 1) := by decide +kernel
theorem d_LR_findLoad_21 : decode b_LR_findLoad 21 = .ok (.goto 4, 3) := by decide +kernel
theorem d_LR_findLoad_24 : decode b_LR_findLoad 24 = .ok (.aconst_null, 1) := by decide +kernel
theorem d_LR_findLoad_25 : decode b_LR_findLoad 25 = .ok (.areturn, 1) := by decide +kernel
theorem d_LR_option_0 : decode b_LR_option 0 = .ok (.aload_n 0, 1) := by decide +kernel
theorem d_LR_option_1 : decode b_LR_option 1 = .ok (.iload_n 1, 1) := by decide +kernel
theorem d_LR_option_2 : decode b_LR_option 2 = .ok (.invokevirtual 62, 3) := by decide +kernel
theorem d_LR_option_5 : decode b_LR_option 5 = .ok (.astore 6, 2) := by decide +kernel
theorem d_LR_option_7 : decode b_LR_option 7 = .ok (.iload_n 2, 1) := by decide +kernel
theorem d_LR_option_8 : decode b_LR_option 8 = .ok (.iconst 2, 1) := by decide +kernel
theorem d_LR_option_9 : decode b_LR_option 9 = .ok (.if_icmp .ne 7, 3) := by decide +kernel
theorem d_LR_option_12 : decode b_LR_option 12 = .ok (.aconst_null, 1) := by decide +kernel
theorem d_LR_option_13 : decode b_LR_option 13 = .ok (.goto 8, 3) := by decide +kernel
theorem d_LR_option_16 : decode b_LR_option 16 = .ok (.aload_n 0, 1) := by decide +kernel
theorem d_LR_option_17 : decode b_LR_option 17 = .ok (.iload_n 3, 1) := by decide +kernel
theorem d_LR_option_18 : decode b_LR_option 18 = .ok (.invokevirtual 47, 3) := by decide +kernel
theorem d_LR_option_21 : decode b_LR_option 21 = .ok (.astore 7, 2) := by decide +kernel
theorem d_LR_option_23 : decode b_LR_option 23 = .ok (.aload 6, 2) := by decide +kernel
theorem d_LR_option_25 : decode b_LR_option 25 = .ok (.ifnull 13, 3) := by decide +kernel
theorem d_LR_option_28 : decode b_LR_option 28 = .ok (.iload_n 2, 1) := by decide +kernel
theorem d_LR_option_29 : decode b_LR_option 29 = .ok (.iconst 2, 1) := by decide +kernel
theorem d_LR_option_30 : decode b_LR_option 30 = .ok (.if_icmp .eq 11, 3) := by decide +kernel
theorem d_LR_option_33 : decode b_LR_option 33 = .ok (.aload 7, 2) := by decide +kernel
theorem d_LR_option_35 : decode b_LR_option 35 = .ok (.ifnonnull 6, 3) := by decide +kernel
theorem d_LR_option_38 : decode b_LR_option 38 = .ok (.bipush (-11), 2) := by decide +kernel
theorem d_LR_option_40 : decode b_LR_option 40 = .ok (.ireturn, 1) := by decide +kernel
theorem d_LR_option_41 : decode b_LR_option 41 = .ok (.iload_n 2, 1) := by decide +kernel
theorem d_LR_option_42 : decode b_LR_option 42 = .ok (.i2l, 1) := by decide +kernel
theorem d_LR_option_43 : decode b_LR_option 43 = .ok (.lconst 0, 1) := by decide +kernel
theorem d_LR_option_44 : decode b_LR_option 44 = .ok (.ldc2_w 66, 3) := by decide +kernel
theorem d_LR_option_47 : decode b_LR_option 47 = .ok (.invokestatic 37, 3) := by decide +kernel
theorem d_LR_option_50 : decode b_LR_option 50 = .ok (.ifCond .eq 15, 3) := by decide +kernel
theorem d_LR_option_53 : decode b_LR_option 53 = .ok (.lload 4, 2) := by decide +kernel
theorem d_LR_option_55 : decode b_LR_option 55 = .ok (.lconst 0, 1) := by decide +kernel
theorem d_LR_option_56 : decode b_LR_option 56 = .ok (.ldc2_w 35, 3) := by decide +kernel
theorem d_LR_option_59 : decode b_LR_option 59 = .ok (.invokestatic 37, 3) := by decide +kernel
theorem d_LR_option_62 : decode b_LR_option 62 = .ok (.ifCond .ne 6, 3) := by decide +kernel
theorem d_LR_option_65 : decode b_LR_option 65 = .ok (.bipush (-12), 2) := by decide +kernel
theorem d_LR_option_67 : decode b_LR_option 67 = .ok (.ireturn, 1) := by decide +kernel
theorem d_LR_option_68 : decode b_LR_option 68 = .ok (.aload 6, 2) := by decide +kernel
theorem d_LR_option_70 : decode b_LR_option 70 = .ok (.invokevirtual 68, 3) := by decide +kernel
theorem d_LR_option_73 : decode b_LR_option 73 = .ok (.ifCond .ne 18, 3) := by decide +kernel
theorem d_LR_option_76 : decode b_LR_option 76 = .ok (.aload 7, 2) := by decide +kernel
theorem d_LR_option_78 : decode b_LR_option 78 = .ok (.ifnull 16, 3) := by decide +kernel
theorem d_LR_option_81 : decode b_LR_option 81 = .ok (.aload 6, 2) := by decide +kernel
theorem d_LR_option_83 : decode b_LR_option 83 = .ok (.aload 7, 2) := by decide +kernel
theorem d_LR_option_85 : decode b_LR_option 85 = .ok (.invokevirtual 72, 3) := by decide +kernel
theorem d_LR_option_88 : decode b_LR_option 88 = .ok (.ifCond .ne 6, 3) := by decide +kernel
theorem d_LR_option_91 : decode b_LR_option 91 = .ok (.bipush (-13), 2) := by decide +kernel
theorem d_LR_option_93 : decode b_LR_option 93 = .ok (.ireturn, 1) := by decide +kernel
theorem d_LR_option_94 : decode b_LR_option 94 = .ok (.aload 6, 2) := by decide +kernel
theorem d_LR_option_96 : decode b_LR_option 96 = .ok (.invokevirtual 76, 3) := by decide +kernel
theorem d_LR_option_99 : decode b_LR_option 99 = .ok (.ifCond .ne 6, 3) := by decide +kernel
theorem d_LR_option_102 : decode b_LR_option 102 = .ok (.bipush (-14), 2) := by decide +kernel
theorem d_LR_option_104 : decode b_LR_option 104 = .ok (.ireturn, 1) := by decide +kernel
theorem d_LR_option_105 : decode b_LR_option 105 = .ok (.aload 6, 2) := by decide +kernel
theorem d_LR_option_107 : decode b_LR_option 107 = .ok (.new 79, 3) := by decide +kernel
theorem d_LR_option_110 : decode b_LR_option 110 = .ok (.dup, 1) := by decide +kernel
theorem d_LR_option_111 : decode b_LR_option 111 = .ok (.iload_n 2, 1) := by decide +kernel
theorem d_LR_option_112 : decode b_LR_option 112 = .ok (.aload 7, 2) := by decide +kernel
theorem d_LR_option_114 : decode b_LR_option 114 = .ok (.lload 4, 2) := by decide +kernel
theorem d_LR_option_116 : decode b_LR_option 116 = .ok (.invokespecial 81, 3) := by decide +kernel
theorem d_LR_option_119 : decode b_LR_option 119 = .ok (.invokevirtual 84, 3) := by decide +kernel
theorem d_LR_option_122 : decode b_LR_option 122 = .ok (.istore 8, 2) := by decide +kernel
theorem d_LR_option_124 : decode b_LR_option 124 = .ok (.aload_n 0, 1) := by decide +kernel
theorem d_LR_option_125 : decode b_LR_option 125 = .ok (.invokevirtual 44, 3) := by decide +kernel
theorem d_LR_option_128 : decode b_LR_option 128 = .ok (.iload 8, 2) := by decide +kernel
theorem d_LR_option_130 : decode b_LR_option 130 = .ok (.ireturn, 1) := by decide +kernel
theorem d_LR_waits_0 : decode b_LR_waits 0 = .ok (.aload_n 0, 1) := by decide +kernel
theorem d_LR_waits_1 : decode b_LR_waits 1 = .ok (.iload_n 1, 1) := by decide +kernel
theorem d_LR_waits_2 : decode b_LR_waits 2 = .ok (.invokevirtual 47, 3) := by decide +kernel
theorem d_LR_waits_5 : decode b_LR_waits 5 = .ok (.astore 4, 2) := by decide +kernel
theorem d_LR_waits_7 : decode b_LR_waits 7 = .ok (.aload 4, 2) := by decide +kernel
theorem d_LR_waits_9 : decode b_LR_waits 9 = .ok (.ifnonnull 6, 3) := by decide +kernel
theorem d_LR_waits_12 : decode b_LR_waits 12 = .ok (.bipush (-11), 2) := by decide +kernel
theorem d_LR_waits_14 : decode b_LR_waits 14 = .ok (.ireturn, 1) := by decide +kernel
theorem d_LR_waits_15 : decode b_LR_waits 15 = .ok (.lload_n 2, 1) := by decide +kernel
theorem d_LR_waits_16 : decode b_LR_waits 16 = .ok (.lconst 0, 1) := by decide +kernel
theorem d_LR_waits_17 : decode b_LR_waits 17 = .ok (.ldc2_w 88, 3) := by decide +kernel
theorem d_LR_waits_20 : decode b_LR_waits 20 = .ok (.invokestatic 37, 3) := by decide +kernel
theorem d_LR_waits_23 : decode b_LR_waits 23 = .ok (.ifCond .ne 6, 3) := by decide +kernel
theorem d_LR_waits_26 : decode b_LR_waits 26 = .ok (.bipush (-12), 2) := by decide +kernel
theorem d_LR_waits_28 : decode b_LR_waits 28 = .ok (.ireturn, 1) := by decide +kernel
theorem d_LR_waits_29 : decode b_LR_waits 29 = .ok (.aload 4, 2) := by decide +kernel
theorem d_LR_waits_31 : decode b_LR_waits 31 = .ok (.getfield 90, 3) := by decide +kernel
theorem d_LR_waits_34 : decode b_LR_waits 34 = .ok (.l2i, 1) := by decide +kernel
theorem d_LR_waits_35 : decode b_LR_waits 35 = .ok (.istore 5, 2) := by decide +kernel
theorem d_LR_waits_37 : decode b_LR_waits 37 = .ok (.aload 4, 2) := by decide +kernel
theorem d_LR_waits_39 : decode b_LR_waits 39 = .ok (.lload_n 2, 1) := by decide +kernel
theorem d_LR_waits_40 : decode b_LR_waits 40 = .ok (.putfield 90, 3) := by decide +kernel
theorem d_LR_waits_43 : decode b_LR_waits 43 = .ok (.aload_n 0, 1) := by decide +kernel
theorem d_LR_waits_44 : decode b_LR_waits 44 = .ok (.invokevirtual 44, 3) := by decide +kernel
theorem d_LR_waits_47 : decode b_LR_waits 47 = .ok (.iload 5, 2) := by decide +kernel
theorem d_LR_waits_49 : decode b_LR_waits 49 = .ok (.ireturn, 1) := by decide +kernel
theorem d_LR_countFailing_0 : decode b_LR_countFailing 0 = .ok (.iconst 0, 1) := by decide +kernel
theorem d_LR_countFailing_1 : decode b_LR_countFailing 1 = .ok (.istore_n 1, 1) := by decide +kernel
theorem d_LR_countFailing_2 : decode b_LR_countFailing 2 = .ok (.iconst 0, 1) := by decide +kernel
theorem d_LR_countFailing_3 : decode b_LR_countFailing 3 = .ok (.istore_n 2, 1) := by decide +kernel
theorem d_LR_countFailing_4 : decode b_LR_countFailing 4 = .ok (.iload_n 2, 1) := by decide +kernel
theorem d_LR_countFailing_5 : decode b_LR_countFailing 5 = .ok (.aload_n 0, 1) := by decide +kernel
theorem d_LR_countFailing_6 : decode b_LR_countFailing 6 = .ok (.getfield 28, 3) := by decide +kernel
theorem d_LR_countFailing_9 : decode b_LR_countFailing 9 = .ok (.if_icmp .ge 38, 3) := by decide +kernel
theorem d_LR_countFailing_12 : decode b_LR_countFailing 12 = .ok (.aload_n 0, 1) := by decide +kernel
theorem d_LR_countFailing_13 : decode b_LR_countFailing 13 = .ok (.getfield 17, 3) := by decide +kernel
theorem d_LR_countFailing_16 : decode b_LR_countFailing 16 = .ok (.iload_n 2, 1) := by decide +kernel
theorem d_LR_countFailing_17 : decode b_LR_countFailing 17 = .ok (.aaload, 1) := by decide +kernel
theorem d_LR_countFailing_18 : decode b_LR_countFailing 18 = .ok (.getfield 146, 3) := by decide +kernel
theorem d_LR_countFailing_21 : decode b_LR_countFailing 21 = .ok (.ifCond .ne 17, 3) := by decide +kernel
theorem d_LR_countFailing_24 : decode b_LR_countFailing 24 = .ok (.aload_n 0, 1) := by decide +kernel
theorem d_LR_countFailing_25 : decode b_LR_countFailing 25 = .ok (.getfield 17, 3) := by decide +kernel
theorem d_LR_countFailing_28 : decode b_LR_countFailing 28 = .ok (.iload_n 2, 1) := by decide +kernel
theorem d_LR_countFailing_29 : decode b_LR_countFailing 29 = .ok (.aaload, 1) := by decide +kernel
theorem d_LR_countFailing_30 : decode b_LR_countFailing 30 = .ok (.invokevirtual 168, 3) := by decide +kernel
theorem d_LR_countFailing_33 : decode b_LR_countFailing 33 = .ok (.lconst 0, 1) := by decide +kernel
theorem d_LR_countFailing_34 : decode b_LR_countFailing 34 = .ok (.lcmp, 1) := by decide +kernel
theorem d_LR_countFailing_35 : decode b_LR_countFailing 35 = .ok (.ifCond .le 6, 3) := by decide +kernel
theorem d_LR_countFailing_38 : decode b_LR_countFailing 38 = .ok (.iinc 1 1, 3) := by decide +kernel
theorem d_LR_countFailing_41 : decode b_LR_countFailing 41 = .ok (.iinc 2 1, 3) := by decide +kernel
theorem d_LR_countFailing_44 : decode b_LR_countFailing 44 = .ok (.goto (-40), 3) := by decide +kernel
theorem d_LR_countFailing_47 : decode b_LR_countFailing 47 = .ok (.iload_n 1, 1) := by decide +kernel
theorem d_LR_countFailing_48 : decode b_LR_countFailing 48 = .ok (.ireturn, 1) := by decide +kernel
theorem d_LR_late_0 : decode b_LR_late 0 = .ok (.aload_n 0, 1) := by decide +kernel
theorem d_LR_late_1 : decode b_LR_late 1 = .ok (.iload_n 1, 1) := by decide +kernel
theorem d_LR_late_2 : decode b_LR_late 2 = .ok (.invokevirtual 47, 3) := by decide +kernel
theorem d_LR_late_5 : decode b_LR_late 5 = .ok (.astore 4, 2) := by decide +kernel
theorem d_LR_late_7 : decode b_LR_late 7 = .ok (.aload 4, 2) := by decide +kernel
theorem d_LR_late_9 : decode b_LR_late 9 = .ok (.ifnonnull 6, 3) := by decide +kernel
theorem d_LR_late_12 : decode b_LR_late 12 = .ok (.bipush (-11), 2) := by decide +kernel
theorem d_LR_late_14 : decode b_LR_late 14 = .ok (.ireturn, 1) := by decide +kernel
theorem d_LR_late_15 : decode b_LR_late 15 = .ok (.lload_n 2, 1) := by decide +kernel
theorem d_LR_late_16 : decode b_LR_late 16 = .ok (.lconst 0, 1) := by decide +kernel
theorem d_LR_late_17 : decode b_LR_late 17 = .ok (.ldc2_w 94, 3) := by decide +kernel
theorem d_LR_late_20 : decode b_LR_late 20 = .ok (.invokestatic 37, 3) := by decide +kernel
theorem d_LR_late_23 : decode b_LR_late 23 = .ok (.ifCond .ne 6, 3) := by decide +kernel
theorem d_LR_late_26 : decode b_LR_late 26 = .ok (.bipush (-12), 2) := by decide +kernel
theorem d_LR_late_28 : decode b_LR_late 28 = .ok (.ireturn, 1) := by decide +kernel
theorem d_LR_late_29 : decode b_LR_late 29 = .ok (.aload 4, 2) := by decide +kernel
theorem d_LR_late_31 : decode b_LR_late 31 = .ok (.lload_n 2, 1) := by decide +kernel
theorem d_LR_late_32 : decode b_LR_late 32 = .ok (.putfield 96, 3) := by decide +kernel
theorem d_LR_late_35 : decode b_LR_late 35 = .ok (.aload_n 0, 1) := by decide +kernel
theorem d_LR_late_36 : decode b_LR_late 36 = .ok (.invokevirtual 44, 3) := by decide +kernel
theorem d_LR_late_39 : decode b_LR_late 39 = .ok (.aload_n 0, 1) := by decide +kernel
theorem d_LR_late_40 : decode b_LR_late 40 = .ok (.invokevirtual 99, 3) := by decide +kernel
theorem d_LR_late_43 : decode b_LR_late 43 = .ok (.ireturn, 1) := by decide +kernel
theorem d_LR_countMoved_0 : decode b_LR_countMoved 0 = .ok (.iconst 0, 1) := by decide +kernel
theorem d_LR_countMoved_1 : decode b_LR_countMoved 1 = .ok (.istore_n 1, 1) := by decide +kernel
theorem d_LR_countMoved_2 : decode b_LR_countMoved 2 = .ok (.iconst 0, 1) := by decide +kernel
theorem d_LR_countMoved_3 : decode b_LR_countMoved 3 = .ok (.istore_n 2, 1) := by decide +kernel
theorem d_LR_countMoved_4 : decode b_LR_countMoved 4 = .ok (.iload_n 2, 1) := by decide +kernel
theorem d_LR_countMoved_5 : decode b_LR_countMoved 5 = .ok (.aload_n 0, 1) := by decide +kernel
theorem d_LR_countMoved_6 : decode b_LR_countMoved 6 = .ok (.getfield 28, 3) := by decide +kernel
theorem d_LR_countMoved_9 : decode b_LR_countMoved 9 = .ok (.if_icmp .ge 24, 3) := by decide +kernel
theorem d_LR_countMoved_12 : decode b_LR_countMoved 12 = .ok (.aload_n 0, 1) := by decide +kernel
theorem d_LR_countMoved_13 : decode b_LR_countMoved 13 = .ok (.getfield 17, 3) := by decide +kernel
theorem d_LR_countMoved_16 : decode b_LR_countMoved 16 = .ok (.iload_n 2, 1) := by decide +kernel
theorem d_LR_countMoved_17 : decode b_LR_countMoved 17 = .ok (.aaload, 1) := by decide +kernel
theorem d_LR_countMoved_18 : decode b_LR_countMoved 18 = .ok (.invokevirtual 171, 3) := by decide +kernel
theorem d_LR_countMoved_21 : decode b_LR_countMoved 21 = .ok (.ifCond .eq 6, 3) := by decide +kernel
theorem d_LR_countMoved_24 : decode b_LR_countMoved 24 = .ok (.iinc 1 1, 3) := by decide +kernel
theorem d_LR_countMoved_27 : decode b_LR_countMoved 27 = .ok (.iinc 2 1, 3) := by decide +kernel
theorem d_LR_countMoved_30 : decode b_LR_countMoved 30 = .ok (.goto (-26), 3) := by decide +kernel
theorem d_LR_countMoved_33 : decode b_LR_countMoved 33 = .ok (.iload_n 1, 1) := by decide +kernel
theorem d_LR_countMoved_34 : decode b_LR_countMoved 34 = .ok (.ireturn, 1) := by decide +kernel
theorem d_LR_tell_0 : decode b_LR_tell 0 = .ok (.aload_n 0, 1) := by decide +kernel
theorem d_LR_tell_1 : decode b_LR_tell 1 = .ok (.iload_n 1, 1) := by decide +kernel
theorem d_LR_tell_2 : decode b_LR_tell 2 = .ok (.invokevirtual 47, 3) := by decide +kernel
theorem d_LR_tell_5 : decode b_LR_tell 5 = .ok (.astore 4, 2) := by decide +kernel
theorem d_LR_tell_7 : decode b_LR_tell 7 = .ok (.aload 4, 2) := by decide +kernel
theorem d_LR_tell_9 : decode b_LR_tell 9 = .ok (.ifnonnull 6, 3) := by decide +kernel
theorem d_LR_tell_12 : decode b_LR_tell 12 = .ok (.bipush (-11), 2) := by decide +kernel
theorem d_LR_tell_14 : decode b_LR_tell 14 = .ok (.ireturn, 1) := by decide +kernel
theorem d_LR_tell_15 : decode b_LR_tell 15 = .ok (.lload_n 2, 1) := by decide +kernel
theorem d_LR_tell_16 : decode b_LR_tell 16 = .ok (.lconst 0, 1) := by decide +kernel
theorem d_LR_tell_17 : decode b_LR_tell 17 = .ok (.ldc2_w 94, 3) := by decide +kernel
theorem d_LR_tell_20 : decode b_LR_tell 20 = .ok (.invokestatic 37, 3) := by decide +kernel
theorem d_LR_tell_23 : decode b_LR_tell 23 = .ok (.ifCond .ne 6, 3) := by decide +kernel
theorem d_LR_tell_26 : decode b_LR_tell 26 = .ok (.bipush (-12), 2) := by decide +kernel
theorem d_LR_tell_28 : decode b_LR_tell 28 = .ok (.ireturn, 1) := by decide +kernel
theorem d_LR_tell_29 : decode b_LR_tell 29 = .ok (.iconst 0, 1) := by decide +kernel
theorem d_LR_tell_30 : decode b_LR_tell 30 = .ok (.istore 5, 2) := by decide +kernel
theorem d_LR_tell_32 : decode b_LR_tell 32 = .ok (.iload 5, 2) := by decide +kernel
theorem d_LR_tell_34 : decode b_LR_tell 34 = .ok (.aload_n 0, 1) := by decide +kernel
theorem d_LR_tell_35 : decode b_LR_tell 35 = .ok (.getfield 28, 3) := by decide +kernel
theorem d_LR_tell_38 : decode b_LR_tell 38 = .ok (.if_icmp .ge 44, 3) := by decide +kernel
theorem d_LR_tell_41 : decode b_LR_tell 41 = .ok (.aload_n 0, 1) := by decide +kernel
theorem d_LR_tell_42 : decode b_LR_tell 42 = .ok (.getfield 17, 3) := by decide +kernel
theorem d_LR_tell_45 : decode b_LR_tell 45 = .ok (.iload 5, 2) := by decide +kernel
theorem d_LR_tell_47 : decode b_LR_tell 47 = .ok (.aaload, 1) := by decide +kernel
theorem d_LR_tell_48 : decode b_LR_tell 48 = .ok (.invokevirtual 103, 3) := by decide +kernel
theorem d_LR_tell_51 : decode b_LR_tell 51 = .ok (.aload_n 0, 1) := by decide +kernel
theorem d_LR_tell_52 : decode b_LR_tell 52 = .ok (.getfield 17, 3) := by decide +kernel
theorem d_LR_tell_55 : decode b_LR_tell 55 = .ok (.iload 5, 2) := by decide +kernel
theorem d_LR_tell_57 : decode b_LR_tell 57 = .ok (.aaload, 1) := by decide +kernel
theorem d_LR_tell_58 : decode b_LR_tell 58 = .ok (.aload 4, 2) := by decide +kernel
theorem d_LR_tell_60 : decode b_LR_tell 60 = .ok (.invokevirtual 106, 3) := by decide +kernel
theorem d_LR_tell_63 : decode b_LR_tell 63 = .ok (.ifCond .eq 13, 3) := by decide +kernel
theorem d_LR_tell_66 : decode b_LR_tell 66 = .ok (.aload_n 0, 1) := by decide +kernel
theorem d_LR_tell_67 : decode b_LR_tell 67 = .ok (.getfield 17, 3) := by decide +kernel
theorem d_LR_tell_70 : decode b_LR_tell 70 = .ok (.iload 5, 2) := by decide +kernel
theorem d_LR_tell_72 : decode b_LR_tell 72 = .ok (.aaload, 1) := by decide +kernel
theorem d_LR_tell_73 : decode b_LR_tell 73 = .ok (.invokevirtual 109, 3) := by decide +kernel
theorem d_LR_tell_76 : decode b_LR_tell 76 = .ok (.iinc 5 1, 3) := by decide +kernel
theorem d_LR_tell_79 : decode b_LR_tell 79 = .ok (.goto (-47), 3) := by decide +kernel
theorem d_LR_tell_82 : decode b_LR_tell 82 = .ok (.aload 4, 2) := by decide +kernel
theorem d_LR_tell_84 : decode b_LR_tell 84 = .ok (.lload_n 2, 1) := by decide +kernel
theorem d_LR_tell_85 : decode b_LR_tell 85 = .ok (.putfield 96, 3) := by decide +kernel
theorem d_LR_tell_88 : decode b_LR_tell 88 = .ok (.aload_n 0, 1) := by decide +kernel
theorem d_LR_tell_89 : decode b_LR_tell 89 = .ok (.invokevirtual 44, 3) := by decide +kernel
theorem d_LR_tell_92 : decode b_LR_tell 92 = .ok (.aload_n 0, 1) := by decide +kernel
theorem d_LR_tell_93 : decode b_LR_tell 93 = .ok (.invokevirtual 112, 3) := by decide +kernel
theorem d_LR_tell_96 : decode b_LR_tell 96 = .ok (.ireturn, 1) := by decide +kernel
theorem d_LR_sumHarm_0 : decode b_LR_sumHarm 0 = .ok (.lconst 0, 1) := by decide +kernel
theorem d_LR_sumHarm_1 : decode b_LR_sumHarm 1 = .ok (.lstore_n 1, 1) := by decide +kernel
theorem d_LR_sumHarm_2 : decode b_LR_sumHarm 2 = .ok (.iconst 0, 1) := by decide +kernel
theorem d_LR_sumHarm_3 : decode b_LR_sumHarm 3 = .ok (.istore_n 3, 1) := by decide +kernel
theorem d_LR_sumHarm_4 : decode b_LR_sumHarm 4 = .ok (.iload_n 3, 1) := by decide +kernel
theorem d_LR_sumHarm_5 : decode b_LR_sumHarm 5 = .ok (.aload_n 0, 1) := by decide +kernel
theorem d_LR_sumHarm_6 : decode b_LR_sumHarm 6 = .ok (.getfield 28, 3) := by decide +kernel
theorem d_LR_sumHarm_9 : decode b_LR_sumHarm 9 = .ok (.if_icmp .ge 21, 3) := by decide +kernel
theorem d_LR_sumHarm_12 : decode b_LR_sumHarm 12 = .ok (.lload_n 1, 1) := by decide +kernel
theorem d_LR_sumHarm_13 : decode b_LR_sumHarm 13 = .ok (.aload_n 0, 1) := by decide +kernel
theorem d_LR_sumHarm_14 : decode b_LR_sumHarm 14 = .ok (.getfield 17, 3) := by decide +kernel
theorem d_LR_sumHarm_17 : decode b_LR_sumHarm 17 = .ok (.iload_n 3, 1) := by decide +kernel
theorem d_LR_sumHarm_18 : decode b_LR_sumHarm 18 = .ok (.aaload, 1) := by decide +kernel
theorem d_LR_sumHarm_19 : decode b_LR_sumHarm 19 = .ok (.invokevirtual 177, 3) := by decide +kernel
theorem d_LR_sumHarm_22 : decode b_LR_sumHarm 22 = .ok (.ladd, 1) := by decide +kernel
theorem d_LR_sumHarm_23 : decode b_LR_sumHarm 23 = .ok (.lstore_n 1, 1) := by decide +kernel
theorem d_LR_sumHarm_24 : decode b_LR_sumHarm 24 = .ok (.iinc 3 1, 3) := by decide +kernel
theorem d_LR_sumHarm_27 : decode b_LR_sumHarm 27 = .ok (.goto (-23), 3) := by decide +kernel
theorem d_LR_sumHarm_30 : decode b_LR_sumHarm 30 = .ok (.lload_n 1, 1) := by decide +kernel
theorem d_LR_sumHarm_31 : decode b_LR_sumHarm 31 = .ok (.lreturn, 1) := by decide +kernel
theorem d_LR_countActs_0 : decode b_LR_countActs 0 = .ok (.iconst 0, 1) := by decide +kernel
theorem d_LR_countActs_1 : decode b_LR_countActs 1 = .ok (.istore_n 1, 1) := by decide +kernel
theorem d_LR_countActs_2 : decode b_LR_countActs 2 = .ok (.iconst 0, 1) := by decide +kernel
theorem d_LR_countActs_3 : decode b_LR_countActs 3 = .ok (.istore_n 2, 1) := by decide +kernel
theorem d_LR_countActs_4 : decode b_LR_countActs 4 = .ok (.iload_n 2, 1) := by decide +kernel
theorem d_LR_countActs_5 : decode b_LR_countActs 5 = .ok (.aload_n 0, 1) := by decide +kernel
theorem d_LR_countActs_6 : decode b_LR_countActs 6 = .ok (.getfield 28, 3) := by decide +kernel
theorem d_LR_countActs_9 : decode b_LR_countActs 9 = .ok (.if_icmp .ge 24, 3) := by decide +kernel
theorem d_LR_countActs_12 : decode b_LR_countActs 12 = .ok (.aload_n 0, 1) := by decide +kernel
theorem d_LR_countActs_13 : decode b_LR_countActs 13 = .ok (.getfield 17, 3) := by decide +kernel
theorem d_LR_countActs_16 : decode b_LR_countActs 16 = .ok (.iload_n 2, 1) := by decide +kernel
theorem d_LR_countActs_17 : decode b_LR_countActs 17 = .ok (.aaload, 1) := by decide +kernel
theorem d_LR_countActs_18 : decode b_LR_countActs 18 = .ok (.invokevirtual 174, 3) := by decide +kernel
theorem d_LR_countActs_21 : decode b_LR_countActs 21 = .ok (.ifCond .eq 6, 3) := by decide +kernel
theorem d_LR_countActs_24 : decode b_LR_countActs 24 = .ok (.iinc 1 1, 3) := by decide +kernel
theorem d_LR_countActs_27 : decode b_LR_countActs 27 = .ok (.iinc 2 1, 3) := by decide +kernel
theorem d_LR_countActs_30 : decode b_LR_countActs 30 = .ok (.goto (-26), 3) := by decide +kernel
theorem d_LR_countActs_33 : decode b_LR_countActs 33 = .ok (.iload_n 1, 1) := by decide +kernel
theorem d_LR_countActs_34 : decode b_LR_countActs 34 = .ok (.ireturn, 1) := by decide +kernel
theorem d_LR_keepChoice_0 : decode b_LR_keepChoice 0 = .ok (.iconst 0, 1) := by decide +kernel
theorem d_LR_keepChoice_1 : decode b_LR_keepChoice 1 = .ok (.istore_n 1, 1) := by decide +kernel
theorem d_LR_keepChoice_2 : decode b_LR_keepChoice 2 = .ok (.iload_n 1, 1) := by decide +kernel
theorem d_LR_keepChoice_3 : decode b_LR_keepChoice 3 = .ok (.aload_n 0, 1) := by decide +kernel
theorem d_LR_keepChoice_4 : decode b_LR_keepChoice 4 = .ok (.getfield 28, 3) := by decide +kernel
theorem d_LR_keepChoice_7 : decode b_LR_keepChoice 7 = .ok (.if_icmp .ge 18, 3) := by decide +kernel
theorem d_LR_keepChoice_10 : decode b_LR_keepChoice 10 = .ok (.aload_n 0, 1) := by decide +kernel
theorem d_LR_keepChoice_11 : decode b_LR_keepChoice 11 = .ok (.getfield 17, 3) := by decide +kernel
theorem d_LR_keepChoice_14 : decode b_LR_keepChoice 14 = .ok (.iload_n 1, 1) := by decide +kernel
theorem d_LR_keepChoice_15 : decode b_LR_keepChoice 15 = .ok (.aaload, 1) := by decide +kernel
theorem d_LR_keepChoice_16 : decode b_LR_keepChoice 16 = .ok (.invokevirtual 183, 3) := by decide +kernel
theorem d_LR_keepChoice_19 : decode b_LR_keepChoice 19 = .ok (.iinc 1 1, 3) := by decide +kernel
theorem d_LR_keepChoice_22 : decode b_LR_keepChoice 22 = .ok (.goto (-20), 3) := by decide +kernel
theorem d_LR_keepChoice_25 : decode b_LR_keepChoice 25 = .ok (.return_, 1) := by decide +kernel
theorem d_LR_pickNextChoice_0 : decode b_LR_pickNextChoice 0 = .ok (.aload_n 0, 1) := by decide +kernel
theorem d_LR_pickNextChoice_1 : decode b_LR_pickNextChoice 1 = .ok (.getfield 28, 3) := by decide +kernel
theorem d_LR_pickNextChoice_4 : decode b_LR_pickNextChoice 4 = .ok (.iconst 1, 1) := by decide +kernel
theorem d_LR_pickNextChoice_5 : decode b_LR_pickNextChoice 5 = .ok (.isub, 1) := by decide +kernel
theorem d_LR_pickNextChoice_6 : decode b_LR_pickNextChoice 6 = .ok (.istore_n 1, 1) := by decide +kernel
theorem d_LR_pickNextChoice_7 : decode b_LR_pickNextChoice 7 = .ok (.iload_n 1, 1) := by decide +kernel
theorem d_LR_pickNextChoice_8 : decode b_LR_pickNextChoice 8 = .ok (.ifCond .lt 32, 3) := by decide +kernel
theorem d_LR_pickNextChoice_11 : decode b_LR_pickNextChoice 11 = .ok (.aload_n 0, 1) := by decide +kernel
theorem d_LR_pickNextChoice_12 : decode b_LR_pickNextChoice 12 = .ok (.getfield 17, 3) := by decide +kernel
theorem d_LR_pickNextChoice_15 : decode b_LR_pickNextChoice 15 = .ok (.iload_n 1, 1) := by decide +kernel
theorem d_LR_pickNextChoice_16 : decode b_LR_pickNextChoice 16 = .ok (.aaload, 1) := by decide +kernel
theorem d_LR_pickNextChoice_17 : decode b_LR_pickNextChoice 17 = .ok (.invokevirtual 180, 3) := by decide +kernel
theorem d_LR_pickNextChoice_20 : decode b_LR_pickNextChoice 20 = .ok (.ifCond .eq 5, 3) := by decide +kernel
theorem d_LR_pickNextChoice_23 : decode b_LR_pickNextChoice 23 = .ok (.iconst 1, 1) := by decide +kernel
theorem d_LR_pickNextChoice_24 : decode b_LR_pickNextChoice 24 = .ok (.ireturn, 1) := by decide +kernel
theorem d_LR_pickNextChoice_25 : decode b_LR_pickNextChoice 25 = .ok (.aload_n 0, 1) := by decide +kernel
theorem d_LR_pickNextChoice_26 : decode b_LR_pickNextChoice 26 = .ok (.getfield 17, 3) := by decide +kernel
theorem d_LR_pickNextChoice_29 : decode b_LR_pickNextChoice 29 = .ok (.iload_n 1, 1) := by decide +kernel
theorem d_LR_pickNextChoice_30 : decode b_LR_pickNextChoice 30 = .ok (.aaload, 1) := by decide +kernel
theorem d_LR_pickNextChoice_31 : decode b_LR_pickNextChoice 31 = .ok (.invokevirtual 109, 3) := by decide +kernel
theorem d_LR_pickNextChoice_34 : decode b_LR_pickNextChoice 34 = .ok (.iinc 1 (-1), 3) := by decide +kernel
theorem d_LR_pickNextChoice_37 : decode b_LR_pickNextChoice 37 = .ok (.goto (-30), 3) := by decide +kernel
theorem d_LR_pickNextChoice_40 : decode b_LR_pickNextChoice 40 = .ok (.iconst 0, 1) := by decide +kernel
theorem d_LR_pickNextChoice_41 : decode b_LR_pickNextChoice 41 = .ok (.ireturn, 1) := by decide +kernel
theorem d_LR_takeKeptChoice_0 : decode b_LR_takeKeptChoice 0 = .ok (.iconst 0, 1) := by decide +kernel
theorem d_LR_takeKeptChoice_1 : decode b_LR_takeKeptChoice 1 = .ok (.istore_n 1, 1) := by decide +kernel
theorem d_LR_takeKeptChoice_2 : decode b_LR_takeKeptChoice 2 = .ok (.iload_n 1, 1) := by decide +kernel
theorem d_LR_takeKeptChoice_3 : decode b_LR_takeKeptChoice 3 = .ok (.aload_n 0, 1) := by decide +kernel
theorem d_LR_takeKeptChoice_4 : decode b_LR_takeKeptChoice 4 = .ok (.getfield 28, 3) := by decide +kernel
theorem d_LR_takeKeptChoice_7 : decode b_LR_takeKeptChoice 7 = .ok (.if_icmp .ge 18, 3) := by decide +kernel
theorem d_LR_takeKeptChoice_10 : decode b_LR_takeKeptChoice 10 = .ok (.aload_n 0, 1) := by decide +kernel
theorem d_LR_takeKeptChoice_11 : decode b_LR_takeKeptChoice 11 = .ok (.getfield 17, 3) := by decide +kernel
theorem d_LR_takeKeptChoice_14 : decode b_LR_takeKeptChoice 14 = .ok (.iload_n 1, 1) := by decide +kernel
theorem d_LR_takeKeptChoice_15 : decode b_LR_takeKeptChoice 15 = .ok (.aaload, 1) := by decide +kernel
theorem d_LR_takeKeptChoice_16 : decode b_LR_takeKeptChoice 16 = .ok (.invokevirtual 186, 3) := by decide +kernel
theorem d_LR_takeKeptChoice_19 : decode b_LR_takeKeptChoice 19 = .ok (.iinc 1 1, 3) := by decide +kernel
theorem d_LR_takeKeptChoice_22 : decode b_LR_takeKeptChoice 22 = .ok (.goto (-20), 3) := by decide +kernel
theorem d_LR_takeKeptChoice_25 : decode b_LR_takeKeptChoice 25 = .ok (.return_, 1) := by decide +kernel
theorem d_LR_solve_0 : decode b_LR_solve 0 = .ok (.iconst 0, 1) := by decide +kernel
theorem d_LR_solve_1 : decode b_LR_solve 1 = .ok (.istore_n 1, 1) := by decide +kernel
theorem d_LR_solve_2 : decode b_LR_solve 2 = .ok (.iload_n 1, 1) := by decide +kernel
theorem d_LR_solve_3 : decode b_LR_solve 3 = .ok (.aload_n 0, 1) := by decide +kernel
theorem d_LR_solve_4 : decode b_LR_solve 4 = .ok (.getfield 28, 3) := by decide +kernel
theorem d_LR_solve_7 : decode b_LR_solve 7 = .ok (.if_icmp .ge 18, 3) := by decide +kernel
theorem d_LR_solve_10 : decode b_LR_solve 10 = .ok (.aload_n 0, 1) := by decide +kernel
theorem d_LR_solve_11 : decode b_LR_solve 11 = .ok (.getfield 17, 3) := by decide +kernel
theorem d_LR_solve_14 : decode b_LR_solve 14 = .ok (.iload_n 1, 1) := by decide +kernel
theorem d_LR_solve_15 : decode b_LR_solve 15 = .ok (.aaload, 1) := by decide +kernel
theorem d_LR_solve_16 : decode b_LR_solve 16 = .ok (.invokevirtual 109, 3) := by decide +kernel
theorem d_LR_solve_19 : decode b_LR_solve 19 = .ok (.iinc 1 1, 3) := by decide +kernel
theorem d_LR_solve_22 : decode b_LR_solve 22 = .ok (.goto (-20), 3) := by decide +kernel
theorem d_LR_solve_25 : decode b_LR_solve 25 = .ok (.ldc2_w 117, 3) := by decide +kernel
theorem d_LR_solve_28 : decode b_LR_solve 28 = .ok (.lstore_n 1, 1) := by decide +kernel
theorem d_LR_solve_29 : decode b_LR_solve 29 = .ok (.iconst 0, 1) := by decide +kernel
theorem d_LR_solve_30 : decode b_LR_solve 30 = .ok (.istore_n 3, 1) := by decide +kernel
theorem d_LR_solve_31 : decode b_LR_solve 31 = .ok (.iconst 1, 1) := by decide +kernel
theorem d_LR_solve_32 : decode b_LR_solve 32 = .ok (.istore 4, 2) := by decide +kernel
theorem d_LR_solve_34 : decode b_LR_solve 34 = .ok (.iconst 0, 1) := by decide +kernel
theorem d_LR_solve_35 : decode b_LR_solve 35 = .ok (.istore 5, 2) := by decide +kernel
theorem d_LR_solve_37 : decode b_LR_solve 37 = .ok (.iload 4, 2) := by decide +kernel
theorem d_LR_solve_39 : decode b_LR_solve 39 = .ok (.ifCond .eq 69, 3) := by decide +kernel
theorem d_LR_solve_42 : decode b_LR_solve 42 = .ok (.iload 5, 2) := by decide +kernel
theorem d_LR_solve_44 : decode b_LR_solve 44 = .ok (.sipush 4096, 3) := by decide +kernel
theorem d_LR_solve_47 : decode b_LR_solve 47 = .ok (.if_icmp .ge 61, 3) := by decide +kernel
theorem d_LR_solve_50 : decode b_LR_solve 50 = .ok (.aload_n 0, 1) := by decide +kernel
theorem d_LR_solve_51 : decode b_LR_solve 51 = .ok (.invokevirtual 44, 3) := by decide +kernel
theorem d_LR_solve_54 : decode b_LR_solve 54 = .ok (.aload_n 0, 1) := by decide +kernel
theorem d_LR_solve_55 : decode b_LR_solve 55 = .ok (.invokevirtual 119, 3) := by decide +kernel
theorem d_LR_solve_58 : decode b_LR_solve 58 = .ok (.lstore 6, 2) := by decide +kernel
theorem d_LR_solve_60 : decode b_LR_solve 60 = .ok (.aload_n 0, 1) := by decide +kernel
theorem d_LR_solve_61 : decode b_LR_solve 61 = .ok (.invokevirtual 123, 3) := by decide +kernel
theorem d_LR_solve_64 : decode b_LR_solve 64 = .ok (.istore 8, 2) := by decide +kernel
theorem d_LR_solve_66 : decode b_LR_solve 66 = .ok (.lload 6, 2) := by decide +kernel
theorem d_LR_solve_68 : decode b_LR_solve 68 = .ok (.lload_n 1, 1) := by decide +kernel
theorem d_LR_solve_69 : decode b_LR_solve 69 = .ok (.lcmp, 1) := by decide +kernel
theorem d_LR_solve_70 : decode b_LR_solve 70 = .ok (.ifCond .lt 16, 3) := by decide +kernel
theorem d_LR_solve_73 : decode b_LR_solve 73 = .ok (.lload 6, 2) := by decide +kernel
theorem d_LR_solve_75 : decode b_LR_solve 75 = .ok (.lload_n 1, 1) := by decide +kernel
theorem d_LR_solve_76 : decode b_LR_solve 76 = .ok (.lcmp, 1) := by decide +kernel
theorem d_LR_solve_77 : decode b_LR_solve 77 = .ok (.ifCond .ne 19, 3) := by decide +kernel
theorem d_LR_solve_80 : decode b_LR_solve 80 = .ok (.iload 8, 2) := by decide +kernel
theorem d_LR_solve_82 : decode b_LR_solve 82 = .ok (.iload_n 3, 1) := by decide +kernel
theorem d_LR_solve_83 : decode b_LR_solve 83 = .ok (.if_icmp .ge 13, 3) := by decide +kernel
theorem d_LR_solve_86 : decode b_LR_solve 86 = .ok (.lload 6, 2) := by decide +kernel
theorem d_LR_solve_88 : decode b_LR_solve 88 = .ok (.lstore_n 1, 1) := by decide +kernel
theorem d_LR_solve_89 : decode b_LR_solve 89 = .ok (.iload 8, 2) := by decide +kernel
theorem d_LR_solve_91 : decode b_LR_solve 91 = .ok (.istore_n 3, 1) := by decide +kernel
theorem d_LR_solve_92 : decode b_LR_solve 92 = .ok (.aload_n 0, 1) := by decide +kernel
theorem d_LR_solve_93 : decode b_LR_solve 93 = .ok (.invokevirtual 126, 3) := by decide +kernel
theorem d_LR_solve_96 : decode b_LR_solve 96 = .ok (.aload_n 0, 1) := by decide +kernel
theorem d_LR_solve_97 : decode b_LR_solve 97 = .ok (.invokevirtual 129, 3) := by decide +kernel
theorem d_LR_solve_100 : decode b_LR_solve 100 = .ok (.istore 4, 2) := by decide +kernel
theorem d_LR_solve_102 : decode b_LR_solve 102 = .ok (.iinc 5 1, 3) := by decide +kernel
theorem d_LR_solve_105 : decode b_LR_solve 105 = .ok (.goto (-68), 3) := by decide +kernel
theorem d_LR_solve_108 : decode b_LR_solve 108 = .ok (.aload_n 0, 1) := by decide +kernel
theorem d_LR_solve_109 : decode b_LR_solve 109 = .ok (.invokevirtual 132, 3) := by decide +kernel
theorem d_LR_solve_112 : decode b_LR_solve 112 = .ok (.aload_n 0, 1) := by decide +kernel
theorem d_LR_solve_113 : decode b_LR_solve 113 = .ok (.invokevirtual 44, 3) := by decide +kernel
theorem d_LR_solve_116 : decode b_LR_solve 116 = .ok (.lload_n 1, 1) := by decide +kernel
theorem d_LR_solve_117 : decode b_LR_solve 117 = .ok (.lreturn, 1) := by decide +kernel
theorem d_LR_chosen_0 : decode b_LR_chosen 0 = .ok (.aload_n 0, 1) := by decide +kernel
theorem d_LR_chosen_1 : decode b_LR_chosen 1 = .ok (.iload_n 1, 1) := by decide +kernel
theorem d_LR_chosen_2 : decode b_LR_chosen 2 = .ok (.invokevirtual 62, 3) := by decide +kernel
theorem d_LR_chosen_5 : decode b_LR_chosen 5 = .ok (.astore_n 2, 1) := by decide +kernel
theorem d_LR_chosen_6 : decode b_LR_chosen 6 = .ok (.aload_n 2, 1) := by decide +kernel
theorem d_LR_chosen_7 : decode b_LR_chosen 7 = .ok (.ifnonnull 8, 3) := by decide +kernel
theorem d_LR_chosen_10 : decode b_LR_chosen 10 = .ok (.bipush (-11), 2) := by decide +kernel
theorem d_LR_chosen_12 : decode b_LR_chosen 12 = .ok (.goto 7, 3) := by decide +kernel
theorem d_LR_chosen_15 : decode b_LR_chosen 15 = .ok (.aload_n 2, 1) := by decide +kernel
theorem d_LR_chosen_16 : decode b_LR_chosen 16 = .ok (.getfield 135, 3) := by decide +kernel
theorem d_LR_chosen_19 : decode b_LR_chosen 19 = .ok (.ireturn, 1) := by decide +kernel
theorem d_LR_arrival_0 : decode b_LR_arrival 0 = .ok (.aload_n 0, 1) := by decide +kernel
theorem d_LR_arrival_1 : decode b_LR_arrival 1 = .ok (.iload_n 1, 1) := by decide +kernel
theorem d_LR_arrival_2 : decode b_LR_arrival 2 = .ok (.invokevirtual 62, 3) := by decide +kernel
theorem d_LR_arrival_5 : decode b_LR_arrival 5 = .ok (.astore_n 2, 1) := by decide +kernel
theorem d_LR_arrival_6 : decode b_LR_arrival 6 = .ok (.aload_n 2, 1) := by decide +kernel
theorem d_LR_arrival_7 : decode b_LR_arrival 7 = .ok (.ifnonnull 9, 3) := by decide +kernel
theorem d_LR_arrival_10 : decode b_LR_arrival 10 = .ok (.ldc2_w 138, 3) := by decide +kernel
theorem d_LR_arrival_13 : decode b_LR_arrival 13 = .ok (.goto 7, 3) := by decide +kernel
theorem d_LR_arrival_16 : decode b_LR_arrival 16 = .ok (.aload_n 2, 1) := by decide +kernel
theorem d_LR_arrival_17 : decode b_LR_arrival 17 = .ok (.getfield 140, 3) := by decide +kernel
theorem d_LR_arrival_20 : decode b_LR_arrival 20 = .ok (.lreturn, 1) := by decide +kernel
theorem d_LR_departs_0 : decode b_LR_departs 0 = .ok (.aload_n 0, 1) := by decide +kernel
theorem d_LR_departs_1 : decode b_LR_departs 1 = .ok (.iload_n 1, 1) := by decide +kernel
theorem d_LR_departs_2 : decode b_LR_departs 2 = .ok (.invokevirtual 47, 3) := by decide +kernel
theorem d_LR_departs_5 : decode b_LR_departs 5 = .ok (.astore_n 2, 1) := by decide +kernel
theorem d_LR_departs_6 : decode b_LR_departs 6 = .ok (.aload_n 2, 1) := by decide +kernel
theorem d_LR_departs_7 : decode b_LR_departs 7 = .ok (.ifnonnull 9, 3) := by decide +kernel
theorem d_LR_departs_10 : decode b_LR_departs 10 = .ok (.ldc2_w 138, 3) := by decide +kernel
theorem d_LR_departs_13 : decode b_LR_departs 13 = .ok (.goto 7, 3) := by decide +kernel
theorem d_LR_departs_16 : decode b_LR_departs 16 = .ok (.aload_n 2, 1) := by decide +kernel
theorem d_LR_departs_17 : decode b_LR_departs 17 = .ok (.getfield 143, 3) := by decide +kernel
theorem d_LR_departs_20 : decode b_LR_departs 20 = .ok (.lreturn, 1) := by decide +kernel
theorem d_LR_none_0 : decode b_LR_none 0 = .ok (.iconst 0, 1) := by decide +kernel
theorem d_LR_none_1 : decode b_LR_none 1 = .ok (.istore_n 2, 1) := by decide +kernel
theorem d_LR_none_2 : decode b_LR_none 2 = .ok (.iconst 0, 1) := by decide +kernel
theorem d_LR_none_3 : decode b_LR_none 3 = .ok (.istore_n 3, 1) := by decide +kernel
theorem d_LR_none_4 : decode b_LR_none 4 = .ok (.iload_n 3, 1) := by decide +kernel
theorem d_LR_none_5 : decode b_LR_none 5 = .ok (.aload_n 0, 1) := by decide +kernel
theorem d_LR_none_6 : decode b_LR_none 6 = .ok (.getfield 28, 3) := by decide +kernel
theorem d_LR_none_9 : decode b_LR_none 9 = .ok (.if_icmp .ge 33, 3) := by decide +kernel
theorem d_LR_none_12 : decode b_LR_none 12 = .ok (.aload_n 0, 1) := by decide +kernel
theorem d_LR_none_13 : decode b_LR_none 13 = .ok (.getfield 17, 3) := by decide +kernel
theorem d_LR_none_16 : decode b_LR_none 16 = .ok (.iload_n 3, 1) := by decide +kernel
theorem d_LR_none_17 : decode b_LR_none 17 = .ok (.aaload, 1) := by decide +kernel
theorem d_LR_none_18 : decode b_LR_none 18 = .ok (.getfield 146, 3) := by decide +kernel
theorem d_LR_none_21 : decode b_LR_none 21 = .ok (.ifCond .eq 15, 3) := by decide +kernel
theorem d_LR_none_24 : decode b_LR_none 24 = .ok (.iload_n 2, 1) := by decide +kernel
theorem d_LR_none_25 : decode b_LR_none 25 = .ok (.iload_n 1, 1) := by decide +kernel
theorem d_LR_none_26 : decode b_LR_none 26 = .ok (.if_icmp .ne 7, 3) := by decide +kernel
theorem d_LR_none_29 : decode b_LR_none 29 = .ok (.iload_n 3, 1) := by decide +kernel
theorem d_LR_none_30 : decode b_LR_none 30 = .ok (.iconst 1, 1) := by decide +kernel
theorem d_LR_none_31 : decode b_LR_none 31 = .ok (.iadd, 1) := by decide +kernel
theorem d_LR_none_32 : decode b_LR_none 32 = .ok (.ireturn, 1) := by decide +kernel
theorem d_LR_none_33 : decode b_LR_none 33 = .ok (.iinc 2 1, 3) := by decide +kernel
theorem d_LR_none_36 : decode b_LR_none 36 = .ok (.iinc 3 1, 3) := by decide +kernel
theorem d_LR_none_39 : decode b_LR_none 39 = .ok (.goto (-35), 3) := by decide +kernel
theorem d_LR_none_42 : decode b_LR_none 42 = .ok (.iconst (-1), 1) := by decide +kernel
theorem d_LR_none_43 : decode b_LR_none 43 = .ok (.ireturn, 1) := by decide +kernel
theorem d_LR_acts_0 : decode b_LR_acts 0 = .ok (.aload_n 0, 1) := by decide +kernel
theorem d_LR_acts_1 : decode b_LR_acts 1 = .ok (.invokevirtual 123, 3) := by decide +kernel
theorem d_LR_acts_4 : decode b_LR_acts 4 = .ok (.ireturn, 1) := by decide +kernel
end
section
theorem d_Mo_init_0 : decode b_Mo_init 0 = .ok (.aload_n 0, 1) := by decide +kernel
theorem d_Mo_init_1 : decode b_Mo_init 1 = .ok (.invokespecial 1, 3) := by decide +kernel
theorem d_Mo_init_4 : decode b_Mo_init 4 = .ok (.aload_n 0, 1) := by decide +kernel
theorem d_Mo_init_5 : decode b_Mo_init 5 = .ok (.bipush 13, 2) := by decide +kernel
theorem d_Mo_init_7 : decode b_Mo_init 7 = .ok (.newarray .int, 2) := by decide +kernel
theorem d_Mo_init_9 : decode b_Mo_init 9 = .ok (.putfield 7, 3) := by decide +kernel
theorem d_Mo_init_12 : decode b_Mo_init 12 = .ok (.aload_n 0, 1) := by decide +kernel
theorem d_Mo_init_13 : decode b_Mo_init 13 = .ok (.bipush 13, 2) := by decide +kernel
theorem d_Mo_init_15 : decode b_Mo_init 15 = .ok (.newarray .int, 2) := by decide +kernel
theorem d_Mo_init_17 : decode b_Mo_init 17 = .ok (.putfield 13, 3) := by decide +kernel
theorem d_Mo_init_20 : decode b_Mo_init 20 = .ok (.aload_n 0, 1) := by decide +kernel
theorem d_Mo_init_21 : decode b_Mo_init 21 = .ok (.bipush 13, 2) := by decide +kernel
theorem d_Mo_init_23 : decode b_Mo_init 23 = .ok (.newarray .long, 2) := by decide +kernel
theorem d_Mo_init_25 : decode b_Mo_init 25 = .ok (.putfield 16, 3) := by decide +kernel
theorem d_Mo_init_28 : decode b_Mo_init 28 = .ok (.aload_n 0, 1) := by decide +kernel
theorem d_Mo_init_29 : decode b_Mo_init 29 = .ok (.bipush 13, 2) := by decide +kernel
theorem d_Mo_init_31 : decode b_Mo_init 31 = .ok (.newarray .long, 2) := by decide +kernel
theorem d_Mo_init_33 : decode b_Mo_init 33 = .ok (.putfield 20, 3) := by decide +kernel
theorem d_Mo_init_36 : decode b_Mo_init 36 = .ok (.aload_n 0, 1) := by decide +kernel
theorem d_Mo_init_37 : decode b_Mo_init 37 = .ok (.bipush 13, 2) := by decide +kernel
theorem d_Mo_init_39 : decode b_Mo_init 39 = .ok (.newarray .long, 2) := by decide +kernel
theorem d_Mo_init_41 : decode b_Mo_init 41 = .ok (.putfield 23, 3) := by decide +kernel
theorem d_Mo_init_44 : decode b_Mo_init 44 = .ok (.aload_n 0, 1) := by decide +kernel
theorem d_Mo_init_45 : decode b_Mo_init 45 = .ok (.bipush 13, 2) := by decide +kernel
theorem d_Mo_init_47 : decode b_Mo_init 47 = .ok (.newarray .long, 2) := by decide +kernel
theorem d_Mo_init_49 : decode b_Mo_init 49 = .ok (.putfield 26, 3) := by decide +kernel
theorem d_Mo_init_52 : decode b_Mo_init 52 = .ok (.aload_n 0, 1) := by decide +kernel
theorem d_Mo_init_53 : decode b_Mo_init 53 = .ok (.bipush 13, 2) := by decide +kernel
theorem d_Mo_init_55 : decode b_Mo_init 55 = .ok (.newarray .long, 2) := by decide +kernel
theorem d_Mo_init_57 : decode b_Mo_init 57 = .ok (.putfield 29, 3) := by decide +kernel
theorem d_Mo_init_60 : decode b_Mo_init 60 = .ok (.aload_n 0, 1) := by decide +kernel
theorem d_Mo_init_61 : decode b_Mo_init 61 = .ok (.bipush 7, 2) := by decide +kernel
theorem d_Mo_init_63 : decode b_Mo_init 63 = .ok (.newarray .int, 2) := by decide +kernel
theorem d_Mo_init_65 : decode b_Mo_init 65 = .ok (.putfield 32, 3) := by decide +kernel
theorem d_Mo_init_68 : decode b_Mo_init 68 = .ok (.aload_n 0, 1) := by decide +kernel
theorem d_Mo_init_69 : decode b_Mo_init 69 = .ok (.bipush 7, 2) := by decide +kernel
theorem d_Mo_init_71 : decode b_Mo_init 71 = .ok (.newarray .int, 2) := by decide +kernel
theorem d_Mo_init_73 : decode b_Mo_init 73 = .ok (.putfield 35, 3) := by decide +kernel
theorem d_Mo_init_76 : decode b_Mo_init 76 = .ok (.aload_n 0, 1) := by decide +kernel
theorem d_Mo_init_77 : decode b_Mo_init 77 = .ok (.bipush 7, 2) := by decide +kernel
theorem d_Mo_init_79 : decode b_Mo_init 79 = .ok (.newarray .long, 2) := by decide +kernel
theorem d_Mo_init_81 : decode b_Mo_init 81 = .ok (.putfield 38, 3) := by decide +kernel
theorem d_Mo_init_84 : decode b_Mo_init 84 = .ok (.aload_n 0, 1) := by decide +kernel
theorem d_Mo_init_85 : decode b_Mo_init 85 = .ok (.bipush 7, 2) := by decide +kernel
theorem d_Mo_init_87 : decode b_Mo_init 87 = .ok (.newarray .int, 2) := by decide +kernel
theorem d_Mo_init_89 : decode b_Mo_init 89 = .ok (.putfield 41, 3) := by decide +kernel
theorem d_Mo_init_92 : decode b_Mo_init 92 = .ok (.aload_n 0, 1) := by decide +kernel
theorem d_Mo_init_93 : decode b_Mo_init 93 = .ok (.bipush 7, 2) := by decide +kernel
theorem d_Mo_init_95 : decode b_Mo_init 95 = .ok (.newarray .int, 2) := by decide +kernel
theorem d_Mo_init_97 : decode b_Mo_init 97 = .ok (.putfield 44, 3) := by decide +kernel
theorem d_Mo_init_100 : decode b_Mo_init 100 = .ok (.aload_n 0, 1) := by decide +kernel
theorem d_Mo_init_101 : decode b_Mo_init 101 = .ok (.bipush 7, 2) := by decide +kernel
theorem d_Mo_init_103 : decode b_Mo_init 103 = .ok (.newarray .int, 2) := by decide +kernel
theorem d_Mo_init_105 : decode b_Mo_init 105 = .ok (.putfield 47, 3) := by decide +kernel
theorem d_Mo_init_108 : decode b_Mo_init 108 = .ok (.aload_n 0, 1) := by decide +kernel
theorem d_Mo_init_109 : decode b_Mo_init 109 = .ok (.bipush 28, 2) := by decide +kernel
theorem d_Mo_init_111 : decode b_Mo_init 111 = .ok (.newarray .int, 2) := by decide +kernel
theorem d_Mo_init_113 : decode b_Mo_init 113 = .ok (.putfield 50, 3) := by decide +kernel
theorem d_Mo_init_116 : decode b_Mo_init 116 = .ok (.aload_n 0, 1) := by decide +kernel
theorem d_Mo_init_117 : decode b_Mo_init 117 = .ok (.bipush 28, 2) := by decide +kernel
theorem d_Mo_init_119 : decode b_Mo_init 119 = .ok (.newarray .int, 2) := by decide +kernel
theorem d_Mo_init_121 : decode b_Mo_init 121 = .ok (.putfield 53, 3) := by decide +kernel
theorem d_Mo_init_124 : decode b_Mo_init 124 = .ok (.aload_n 0, 1) := by decide +kernel
theorem d_Mo_init_125 : decode b_Mo_init 125 = .ok (.bipush 28, 2) := by decide +kernel
theorem d_Mo_init_127 : decode b_Mo_init 127 = .ok (.newarray .long, 2) := by decide +kernel
theorem d_Mo_init_129 : decode b_Mo_init 129 = .ok (.putfield 56, 3) := by decide +kernel
theorem d_Mo_init_132 : decode b_Mo_init 132 = .ok (.aload_n 0, 1) := by decide +kernel
theorem d_Mo_init_133 : decode b_Mo_init 133 = .ok (.bipush 7, 2) := by decide +kernel
theorem d_Mo_init_135 : decode b_Mo_init 135 = .ok (.newarray .long, 2) := by decide +kernel
theorem d_Mo_init_137 : decode b_Mo_init 137 = .ok (.putfield 59, 3) := by decide +kernel
theorem d_Mo_init_140 : decode b_Mo_init 140 = .ok (.aload_n 0, 1) := by decide +kernel
theorem d_Mo_init_141 : decode b_Mo_init 141 = .ok (.bipush 7, 2) := by decide +kernel
theorem d_Mo_init_143 : decode b_Mo_init 143 = .ok (.newarray .boolean, 2) := by decide +kernel
theorem d_Mo_init_145 : decode b_Mo_init 145 = .ok (.putfield 62, 3) := by decide +kernel
theorem d_Mo_init_148 : decode b_Mo_init 148 = .ok (.aload_n 0, 1) := by decide +kernel
theorem d_Mo_init_149 : decode b_Mo_init 149 = .ok (.bipush 7, 2) := by decide +kernel
theorem d_Mo_init_151 : decode b_Mo_init 151 = .ok (.newarray .int, 2) := by decide +kernel
theorem d_Mo_init_153 : decode b_Mo_init 153 = .ok (.putfield 66, 3) := by decide +kernel
theorem d_Mo_init_156 : decode b_Mo_init 156 = .ok (.aload_n 0, 1) := by decide +kernel
theorem d_Mo_init_157 : decode b_Mo_init 157 = .ok (.bipush 7, 2) := by decide +kernel
theorem d_Mo_init_159 : decode b_Mo_init 159 = .ok (.newarray .long, 2) := by decide +kernel
theorem d_Mo_init_161 : decode b_Mo_init 161 = .ok (.putfield 69, 3) := by decide +kernel
theorem d_Mo_init_164 : decode b_Mo_init 164 = .ok (.return_, 1) := by decide +kernel
theorem d_Mo_in_0 : decode b_Mo_in 0 = .ok (.lload_n 0, 1) := by decide +kernel
theorem d_Mo_in_1 : decode b_Mo_in 1 = .ok (.lload_n 2, 1) := by decide +kernel
theorem d_Mo_in_2 : decode b_Mo_in 2 = .ok (.lcmp, 1) := by decide +kernel
theorem d_Mo_in_3 : decode b_Mo_in 3 = .ok (.ifCond .lt 14, 3) := by decide +kernel
theorem d_Mo_in_6 : decode b_Mo_in 6 = .ok (.lload_n 0, 1) := by decide +kernel
theorem d_Mo_in_7 : decode b_Mo_in 7 = .ok (.lload 4, 2) := by decide +kernel
theorem d_Mo_in_9 : decode b_Mo_in 9 = .ok (.lcmp, 1) := by decide +kernel
theorem d_Mo_in_10 : decode b_Mo_in 10 = .ok (.ifCond .gt 7, 3) := by decide +kernel
theorem d_Mo_in_13 : decode b_Mo_in 13 = .ok (.iconst 1, 1) := by decide +kernel
theorem d_Mo_in_14 : decode b_Mo_in 14 = .ok (.goto 4, 3) := by decide +kernel
theorem d_Mo_in_17 : decode b_Mo_in 17 = .ok (.iconst 0, 1) := by decide +kernel
theorem d_Mo_in_18 : decode b_Mo_in 18 = .ok (.ireturn, 1) := by decide +kernel
theorem d_Mo_line_0 : decode b_Mo_line 0 = .ok (.aload_n 0, 1) := by decide +kernel
theorem d_Mo_line_1 : decode b_Mo_line 1 = .ok (.iconst 0, 1) := by decide +kernel
theorem d_Mo_line_2 : decode b_Mo_line 2 = .ok (.putfield 72, 3) := by decide +kernel
theorem d_Mo_line_5 : decode b_Mo_line 5 = .ok (.iload_n 1, 1) := by decide +kernel
theorem d_Mo_line_6 : decode b_Mo_line 6 = .ok (.i2l, 1) := by decide +kernel
theorem d_Mo_line_7 : decode b_Mo_line 7 = .ok (.lconst 0, 1) := by decide +kernel
theorem d_Mo_line_8 : decode b_Mo_line 8 = .ok (.ldc2_w 82, 3) := by decide +kernel
theorem d_Mo_line_11 : decode b_Mo_line 11 = .ok (.invokestatic 84, 3) := by decide +kernel
theorem d_Mo_line_14 : decode b_Mo_line 14 = .ok (.ifCond .eq 50, 3) := by decide +kernel
theorem d_Mo_line_17 : decode b_Mo_line 17 = .ok (.iload_n 2, 1) := by decide +kernel
theorem d_Mo_line_18 : decode b_Mo_line 18 = .ok (.i2l, 1) := by decide +kernel
theorem d_Mo_line_19 : decode b_Mo_line 19 = .ok (.lconst 0, 1) := by decide +kernel
theorem d_Mo_line_20 : decode b_Mo_line 20 = .ok (.ldc2_w 82, 3) := by decide +kernel
theorem d_Mo_line_23 : decode b_Mo_line 23 = .ok (.invokestatic 84, 3) := by decide +kernel
theorem d_Mo_line_26 : decode b_Mo_line 26 = .ok (.ifCond .eq 38, 3) := by decide +kernel
theorem d_Mo_line_29 : decode b_Mo_line 29 = .ok (.iload_n 1, 1) := by decide +kernel
theorem d_Mo_line_30 : decode b_Mo_line 30 = .ok (.iload_n 2, 1) := by decide +kernel
theorem d_Mo_line_31 : decode b_Mo_line 31 = .ok (.if_icmp .eq 33, 3) := by decide +kernel
theorem d_Mo_line_34 : decode b_Mo_line 34 = .ok (.lload_n 3, 1) := by decide +kernel
theorem d_Mo_line_35 : decode b_Mo_line 35 = .ok (.lconst 0, 1) := by decide +kernel
theorem d_Mo_line_36 : decode b_Mo_line 36 = .ok (.ldc2_w 88, 3) := by decide +kernel
theorem d_Mo_line_39 : decode b_Mo_line 39 = .ok (.invokestatic 84, 3) := by decide +kernel
theorem d_Mo_line_42 : decode b_Mo_line 42 = .ok (.ifCond .eq 22, 3) := by decide +kernel
theorem d_Mo_line_45 : decode b_Mo_line 45 = .ok (.lload 5, 2) := by decide +kernel
theorem d_Mo_line_47 : decode b_Mo_line 47 = .ok (.lconst 0, 1) := by decide +kernel
theorem d_Mo_line_48 : decode b_Mo_line 48 = .ok (.ldc2_w 88, 3) := by decide +kernel
theorem d_Mo_line_51 : decode b_Mo_line 51 = .ok (.invokestatic 84, 3) := by decide +kernel
theorem d_Mo_line_54 : decode b_Mo_line 54 = .ok (.ifCond .eq 10, 3) := by decide +kernel
theorem d_Mo_line_57 : decode b_Mo_line 57 = .ok (.lload 5, 2) := by decide +kernel
theorem d_Mo_line_59 : decode b_Mo_line 59 = .ok (.lload_n 3, 1) := by decide +kernel
theorem d_Mo_line_60 : decode b_Mo_line 60 = .ok (.lcmp, 1) := by decide +kernel
theorem d_Mo_line_61 : decode b_Mo_line 61 = .ok (.ifCond .gt 6, 3) := by decide +kernel
theorem d_Mo_line_64 : decode b_Mo_line 64 = .ok (.bipush (-12), 2) := by decide +kernel
theorem d_Mo_line_66 : decode b_Mo_line 66 = .ok (.ireturn, 1) := by decide +kernel
theorem d_Mo_line_67 : decode b_Mo_line 67 = .ok (.aload_n 0, 1) := by decide +kernel
theorem d_Mo_line_68 : decode b_Mo_line 68 = .ok (.getfield 76, 3) := by decide +kernel
theorem d_Mo_line_71 : decode b_Mo_line 71 = .ok (.bipush 12, 2) := by decide +kernel
theorem d_Mo_line_73 : decode b_Mo_line 73 = .ok (.if_icmp .ne 6, 3) := by decide +kernel
theorem d_Mo_line_76 : decode b_Mo_line 76 = .ok (.bipush (-14), 2) := by decide +kernel
theorem d_Mo_line_78 : decode b_Mo_line 78 = .ok (.ireturn, 1) := by decide +kernel
theorem d_Mo_line_79 : decode b_Mo_line 79 = .ok (.aload_n 0, 1) := by decide +kernel
theorem d_Mo_line_80 : decode b_Mo_line 80 = .ok (.dup, 1) := by decide +kernel
theorem d_Mo_line_81 : decode b_Mo_line 81 = .ok (.getfield 76, 3) := by decide +kernel
theorem d_Mo_line_84 : decode b_Mo_line 84 = .ok (.iconst 1, 1) := by decide +kernel
theorem d_Mo_line_85 : decode b_Mo_line 85 = .ok (.iadd, 1) := by decide +kernel
theorem d_Mo_line_86 : decode b_Mo_line 86 = .ok (.putfield 76, 3) := by decide +kernel
theorem d_Mo_line_89 : decode b_Mo_line 89 = .ok (.aload_n 0, 1) := by decide +kernel
theorem d_Mo_line_90 : decode b_Mo_line 90 = .ok (.getfield 7, 3) := by decide +kernel
theorem d_Mo_line_93 : decode b_Mo_line 93 = .ok (.aload_n 0, 1) := by decide +kernel
theorem d_Mo_line_94 : decode b_Mo_line 94 = .ok (.getfield 76, 3) := by decide +kernel
theorem d_Mo_line_97 : decode b_Mo_line 97 = .ok (.iload_n 1, 1) := by decide +kernel
theorem d_Mo_line_98 : decode b_Mo_line 98 = .ok (.iastore, 1) := by decide +kernel
theorem d_Mo_line_99 : decode b_Mo_line 99 = .ok (.aload_n 0, 1) := by decide +kernel
theorem d_Mo_line_100 : decode b_Mo_line 100 = .ok (.getfield 13, 3) := by decide +kernel
theorem d_Mo_line_103 : decode b_Mo_line 103 = .ok (.aload_n 0, 1) := by decide +kernel
theorem d_Mo_line_104 : decode b_Mo_line 104 = .ok (.getfield 76, 3) := by decide +kernel
theorem d_Mo_line_107 : decode b_Mo_line 107 = .ok (.iload_n 2, 1) := by decide +kernel
theorem d_Mo_line_108 : decode b_Mo_line 108 = .ok (.iastore, 1) := by decide +kernel
theorem d_Mo_line_109 : decode b_Mo_line 109 = .ok (.aload_n 0, 1) := by decide +kernel
theorem d_Mo_line_110 : decode b_Mo_line 110 = .ok (.getfield 16, 3) := by decide +kernel
theorem d_Mo_line_113 : decode b_Mo_line 113 = .ok (.aload_n 0, 1) := by decide +kernel
theorem d_Mo_line_114 : decode b_Mo_line 114 = .ok (.getfield 76, 3) := by decide +kernel
theorem d_Mo_line_117 : decode b_Mo_line 117 = .ok (.lload_n 3, 1) := by decide +kernel
theorem d_Mo_line_118 : decode b_Mo_line 118 = .ok (.lastore, 1) := by decide +kernel
theorem d_Mo_line_119 : decode b_Mo_line 119 = .ok (.aload_n 0, 1) := by decide +kernel
theorem d_Mo_line_120 : decode b_Mo_line 120 = .ok (.getfield 20, 3) := by decide +kernel
theorem d_Mo_line_123 : decode b_Mo_line 123 = .ok (.aload_n 0, 1) := by decide +kernel
theorem d_Mo_line_124 : decode b_Mo_line 124 = .ok (.getfield 76, 3) := by decide +kernel
theorem d_Mo_line_127 : decode b_Mo_line 127 = .ok (.lload 5, 2) := by decide +kernel
theorem d_Mo_line_129 : decode b_Mo_line 129 = .ok (.lastore, 1) := by decide +kernel
theorem d_Mo_line_130 : decode b_Mo_line 130 = .ok (.aload_n 0, 1) := by decide +kernel
theorem d_Mo_line_131 : decode b_Mo_line 131 = .ok (.getfield 76, 3) := by decide +kernel
theorem d_Mo_line_134 : decode b_Mo_line 134 = .ok (.ireturn, 1) := by decide +kernel
theorem d_Mo_isLine_0 : decode b_Mo_isLine 0 = .ok (.iload_n 1, 1) := by decide +kernel
theorem d_Mo_isLine_1 : decode b_Mo_isLine 1 = .ok (.iconst 1, 1) := by decide +kernel
theorem d_Mo_isLine_2 : decode b_Mo_isLine 2 = .ok (.if_icmp .lt 15, 3) := by decide +kernel
theorem d_Mo_isLine_5 : decode b_Mo_isLine 5 = .ok (.iload_n 1, 1) := by decide +kernel
theorem d_Mo_isLine_6 : decode b_Mo_isLine 6 = .ok (.aload_n 0, 1) := by decide +kernel
theorem d_Mo_isLine_7 : decode b_Mo_isLine 7 = .ok (.getfield 76, 3) := by decide +kernel
theorem d_Mo_isLine_10 : decode b_Mo_isLine 10 = .ok (.if_icmp .gt 7, 3) := by decide +kernel
theorem d_Mo_isLine_13 : decode b_Mo_isLine 13 = .ok (.iconst 1, 1) := by decide +kernel
theorem d_Mo_isLine_14 : decode b_Mo_isLine 14 = .ok (.goto 4, 3) := by decide +kernel
theorem d_Mo_isLine_17 : decode b_Mo_isLine 17 = .ok (.iconst 0, 1) := by decide +kernel
theorem d_Mo_isLine_18 : decode b_Mo_isLine 18 = .ok (.ireturn, 1) := by decide +kernel
theorem d_Mo_load_0 : decode b_Mo_load 0 = .ok (.aload_n 0, 1) := by decide +kernel
theorem d_Mo_load_1 : decode b_Mo_load 1 = .ok (.iconst 0, 1) := by decide +kernel
theorem d_Mo_load_2 : decode b_Mo_load 2 = .ok (.putfield 72, 3) := by decide +kernel
theorem d_Mo_load_5 : decode b_Mo_load 5 = .ok (.aload_n 0, 1) := by decide +kernel
theorem d_Mo_load_6 : decode b_Mo_load 6 = .ok (.iload_n 1, 1) := by decide +kernel
theorem d_Mo_load_7 : decode b_Mo_load 7 = .ok (.invokevirtual 90, 3) := by decide +kernel
theorem d_Mo_load_10 : decode b_Mo_load 10 = .ok (.ifCond .ne 6, 3) := by decide +kernel
theorem d_Mo_load_13 : decode b_Mo_load 13 = .ok (.bipush (-11), 2) := by decide +kernel
theorem d_Mo_load_15 : decode b_Mo_load 15 = .ok (.ireturn, 1) := by decide +kernel
theorem d_Mo_load_16 : decode b_Mo_load 16 = .ok (.iload_n 2, 1) := by decide +kernel
theorem d_Mo_load_17 : decode b_Mo_load 17 = .ok (.i2l, 1) := by decide +kernel
theorem d_Mo_load_18 : decode b_Mo_load 18 = .ok (.lconst 0, 1) := by decide +kernel
theorem d_Mo_load_19 : decode b_Mo_load 19 = .ok (.ldc2_w 82, 3) := by decide +kernel
theorem d_Mo_load_22 : decode b_Mo_load 22 = .ok (.invokestatic 84, 3) := by decide +kernel
theorem d_Mo_load_25 : decode b_Mo_load 25 = .ok (.ifCond .eq 27, 3) := by decide +kernel
theorem d_Mo_load_28 : decode b_Mo_load 28 = .ok (.lload_n 3, 1) := by decide +kernel
theorem d_Mo_load_29 : decode b_Mo_load 29 = .ok (.lconst 0, 1) := by decide +kernel
theorem d_Mo_load_30 : decode b_Mo_load 30 = .ok (.ldc2_w 94, 3) := by decide +kernel
theorem d_Mo_load_33 : decode b_Mo_load 33 = .ok (.invokestatic 84, 3) := by decide +kernel
theorem d_Mo_load_36 : decode b_Mo_load 36 = .ok (.ifCond .eq 16, 3) := by decide +kernel
theorem d_Mo_load_39 : decode b_Mo_load 39 = .ok (.iload 5, 2) := by decide +kernel
theorem d_Mo_load_41 : decode b_Mo_load 41 = .ok (.i2l, 1) := by decide +kernel
theorem d_Mo_load_42 : decode b_Mo_load 42 = .ok (.lconst 1, 1) := by decide +kernel
theorem d_Mo_load_43 : decode b_Mo_load 43 = .ok (.ldc2_w 96, 3) := by decide +kernel
theorem d_Mo_load_46 : decode b_Mo_load 46 = .ok (.invokestatic 84, 3) := by decide +kernel
theorem d_Mo_load_49 : decode b_Mo_load 49 = .ok (.ifCond .ne 6, 3) := by decide +kernel
theorem d_Mo_load_52 : decode b_Mo_load 52 = .ok (.bipush (-12), 2) := by decide +kernel
theorem d_Mo_load_54 : decode b_Mo_load 54 = .ok (.ireturn, 1) := by decide +kernel
theorem d_Mo_load_55 : decode b_Mo_load 55 = .ok (.aload_n 0, 1) := by decide +kernel
theorem d_Mo_load_56 : decode b_Mo_load 56 = .ok (.getfield 79, 3) := by decide +kernel
theorem d_Mo_load_59 : decode b_Mo_load 59 = .ok (.bipush 6, 2) := by decide +kernel
theorem d_Mo_load_61 : decode b_Mo_load 61 = .ok (.if_icmp .ne 6, 3) := by decide +kernel
theorem d_Mo_load_64 : decode b_Mo_load 64 = .ok (.bipush (-14), 2) := by decide +kernel
theorem d_Mo_load_66 : decode b_Mo_load 66 = .ok (.ireturn, 1) := by decide +kernel
theorem d_Mo_load_67 : decode b_Mo_load 67 = .ok (.aload_n 0, 1) := by decide +kernel
theorem d_Mo_load_68 : decode b_Mo_load 68 = .ok (.dup, 1) := by decide +kernel
theorem d_Mo_load_69 : decode b_Mo_load 69 = .ok (.getfield 79, 3) := by decide +kernel
theorem d_Mo_load_72 : decode b_Mo_load 72 = .ok (.iconst 1, 1) := by decide +kernel
theorem d_Mo_load_73 : decode b_Mo_load 73 = .ok (.iadd, 1) := by decide +kernel
theorem d_Mo_load_74 : decode b_Mo_load 74 = .ok (.putfield 79, 3) := by decide +kernel
theorem d_Mo_load_77 : decode b_Mo_load 77 = .ok (.aload_n 0, 1) := by decide +kernel
theorem d_Mo_load_78 : decode b_Mo_load 78 = .ok (.getfield 32, 3) := by decide +kernel
theorem d_Mo_load_81 : decode b_Mo_load 81 = .ok (.aload_n 0, 1) := by decide +kernel
theorem d_Mo_load_82 : decode b_Mo_load 82 = .ok (.getfield 79, 3) := by decide +kernel
theorem d_Mo_load_85 : decode b_Mo_load 85 = .ok (.iload_n 1, 1) := by decide +kernel
theorem d_Mo_load_86 : decode b_Mo_load 86 = .ok (.iastore, 1) := by decide +kernel
theorem d_Mo_load_87 : decode b_Mo_load 87 = .ok (.aload_n 0, 1) := by decide +kernel
theorem d_Mo_load_88 : decode b_Mo_load 88 = .ok (.getfield 35, 3) := by decide +kernel
theorem d_Mo_load_91 : decode b_Mo_load 91 = .ok (.aload_n 0, 1) := by decide +kernel
theorem d_Mo_load_92 : decode b_Mo_load 92 = .ok (.getfield 79, 3) := by decide +kernel
theorem d_Mo_load_95 : decode b_Mo_load 95 = .ok (.iload_n 2, 1) := by decide +kernel
theorem d_Mo_load_96 : decode b_Mo_load 96 = .ok (.iastore, 1) := by decide +kernel
theorem d_Mo_load_97 : decode b_Mo_load 97 = .ok (.aload_n 0, 1) := by decide +kernel
theorem d_Mo_load_98 : decode b_Mo_load 98 = .ok (.getfield 38, 3) := by decide +kernel
theorem d_Mo_load_101 : decode b_Mo_load 101 = .ok (.aload_n 0, 1) := by decide +kernel
theorem d_Mo_load_102 : decode b_Mo_load 102 = .ok (.getfield 79, 3) := by decide +kernel
theorem d_Mo_load_105 : decode b_Mo_load 105 = .ok (.lload_n 3, 1) := by decide +kernel
theorem d_Mo_load_106 : decode b_Mo_load 106 = .ok (.lastore, 1) := by decide +kernel
theorem d_Mo_load_107 : decode b_Mo_load 107 = .ok (.aload_n 0, 1) := by decide +kernel
theorem d_Mo_load_108 : decode b_Mo_load 108 = .ok (.getfield 41, 3) := by decide +kernel
theorem d_Mo_load_111 : decode b_Mo_load 111 = .ok (.aload_n 0, 1) := by decide +kernel
theorem d_Mo_load_112 : decode b_Mo_load 112 = .ok (.getfield 79, 3) := by decide +kernel
theorem d_Mo_load_115 : decode b_Mo_load 115 = .ok (.iload 5, 2) := by decide +kernel
theorem d_Mo_load_117 : decode b_Mo_load 117 = .ok (.iastore, 1) := by decide +kernel
theorem d_Mo_load_118 : decode b_Mo_load 118 = .ok (.aload_n 0, 1) := by decide +kernel
theorem d_Mo_load_119 : decode b_Mo_load 119 = .ok (.getfield 79, 3) := by decide +kernel
theorem d_Mo_load_122 : decode b_Mo_load 122 = .ok (.ireturn, 1) := by decide +kernel
theorem d_Mo_isLoad_0 : decode b_Mo_isLoad 0 = .ok (.iload_n 1, 1) := by decide +kernel
theorem d_Mo_isLoad_1 : decode b_Mo_isLoad 1 = .ok (.iconst 1, 1) := by decide +kernel
theorem d_Mo_isLoad_2 : decode b_Mo_isLoad 2 = .ok (.if_icmp .lt 15, 3) := by decide +kernel
theorem d_Mo_isLoad_5 : decode b_Mo_isLoad 5 = .ok (.iload_n 1, 1) := by decide +kernel
theorem d_Mo_isLoad_6 : decode b_Mo_isLoad 6 = .ok (.aload_n 0, 1) := by decide +kernel
theorem d_Mo_isLoad_7 : decode b_Mo_isLoad 7 = .ok (.getfield 79, 3) := by decide +kernel
theorem d_Mo_isLoad_10 : decode b_Mo_isLoad 10 = .ok (.if_icmp .gt 7, 3) := by decide +kernel
theorem d_Mo_isLoad_13 : decode b_Mo_isLoad 13 = .ok (.iconst 1, 1) := by decide +kernel
theorem d_Mo_isLoad_14 : decode b_Mo_isLoad 14 = .ok (.goto 4, 3) := by decide +kernel
theorem d_Mo_isLoad_17 : decode b_Mo_isLoad 17 = .ok (.iconst 0, 1) := by decide +kernel
theorem d_Mo_isLoad_18 : decode b_Mo_isLoad 18 = .ok (.ireturn, 1) := by decide +kernel
theorem d_Mo_isDirect_0 : decode b_Mo_isDirect 0 = .ok (.aload_n 0, 1) := by decide +kernel
theorem d_Mo_isDirect_1 : decode b_Mo_isDirect 1 = .ok (.getfield 13, 3) := by decide +kernel
theorem d_Mo_isDirect_4 : decode b_Mo_isDirect 4 = .ok (.aload_n 0, 1) := by decide +kernel
theorem d_Mo_isDirect_5 : decode b_Mo_isDirect 5 = .ok (.getfield 32, 3) := by decide +kernel
theorem d_Mo_isDirect_8 : decode b_Mo_isDirect 8 = .ok (.iload_n 1, 1) := by decide +kernel
theorem d_Mo_isDirect_9 : decode b_Mo_isDirect 9 = .ok (.iaload, 1) := by decide +kernel
theorem d_Mo_isDirect_10 : decode b_Mo_isDirect 10 = .ok (.iaload, 1) := by decide +kernel
theorem d_Mo_isDirect_11 : decode b_Mo_isDirect 11 = .ok (.aload_n 0, 1) := by decide +kernel
theorem d_Mo_isDirect_12 : decode b_Mo_isDirect 12 = .ok (.getfield 35, 3) := by decide +kernel
theorem d_Mo_isDirect_15 : decode b_Mo_isDirect 15 = .ok (.iload_n 1, 1) := by decide +kernel
theorem d_Mo_isDirect_16 : decode b_Mo_isDirect 16 = .ok (.iaload, 1) := by decide +kernel
theorem d_Mo_isDirect_17 : decode b_Mo_isDirect 17 = .ok (.if_icmp .ne 7, 3) := by decide +kernel
theorem d_Mo_isDirect_20 : decode b_Mo_isDirect 20 = .ok (.iconst 1, 1) := by decide +kernel
theorem d_Mo_isDirect_21 : decode b_Mo_isDirect 21 = .ok (.goto 4, 3) := by decide +kernel
theorem d_Mo_isDirect_24 : decode b_Mo_isDirect 24 = .ok (.iconst 0, 1) := by decide +kernel
theorem d_Mo_isDirect_25 : decode b_Mo_isDirect 25 = .ok (.ireturn, 1) := by decide +kernel
theorem d_Mo_option_0 : decode b_Mo_option 0 = .ok (.aload_n 0, 1) := by decide +kernel
theorem d_Mo_option_1 : decode b_Mo_option 1 = .ok (.iconst 0, 1) := by decide +kernel
theorem d_Mo_option_2 : decode b_Mo_option 2 = .ok (.putfield 72, 3) := by decide +kernel
theorem d_Mo_option_5 : decode b_Mo_option 5 = .ok (.aload_n 0, 1) := by decide +kernel
theorem d_Mo_option_6 : decode b_Mo_option 6 = .ok (.iload_n 1, 1) := by decide +kernel
theorem d_Mo_option_7 : decode b_Mo_option 7 = .ok (.invokevirtual 98, 3) := by decide +kernel
theorem d_Mo_option_10 : decode b_Mo_option 10 = .ok (.ifCond .eq 16, 3) := by decide +kernel
theorem d_Mo_option_13 : decode b_Mo_option 13 = .ok (.iload_n 2, 1) := by decide +kernel
theorem d_Mo_option_14 : decode b_Mo_option 14 = .ok (.iconst 2, 1) := by decide +kernel
theorem d_Mo_option_15 : decode b_Mo_option 15 = .ok (.if_icmp .eq 14, 3) := by decide +kernel
theorem d_Mo_option_18 : decode b_Mo_option 18 = .ok (.aload_n 0, 1) := by decide +kernel
theorem d_Mo_option_19 : decode b_Mo_option 19 = .ok (.iload_n 3, 1) := by decide +kernel
theorem d_Mo_option_20 : decode b_Mo_option 20 = .ok (.invokevirtual 90, 3) := by decide +kernel
theorem d_Mo_option_23 : decode b_Mo_option 23 = .ok (.ifCond .ne 6, 3) := by decide +kernel
theorem d_Mo_option_26 : decode b_Mo_option 26 = .ok (.bipush (-11), 2) := by decide +kernel
theorem d_Mo_option_28 : decode b_Mo_option 28 = .ok (.ireturn, 1) := by decide +kernel
theorem d_Mo_option_29 : decode b_Mo_option 29 = .ok (.iload_n 2, 1) := by decide +kernel
theorem d_Mo_option_30 : decode b_Mo_option 30 = .ok (.i2l, 1) := by decide +kernel
theorem d_Mo_option_31 : decode b_Mo_option 31 = .ok (.lconst 0, 1) := by decide +kernel
theorem d_Mo_option_32 : decode b_Mo_option 32 = .ok (.ldc2_w 101, 3) := by decide +kernel
theorem d_Mo_option_35 : decode b_Mo_option 35 = .ok (.invokestatic 84, 3) := by decide +kernel
theorem d_Mo_option_38 : decode b_Mo_option 38 = .ok (.ifCond .eq 15, 3) := by decide +kernel
theorem d_Mo_option_41 : decode b_Mo_option 41 = .ok (.lload 4, 2) := by decide +kernel
theorem d_Mo_option_43 : decode b_Mo_option 43 = .ok (.lconst 0, 1) := by decide +kernel
theorem d_Mo_option_44 : decode b_Mo_option 44 = .ok (.ldc2_w 88, 3) := by decide +kernel
theorem d_Mo_option_47 : decode b_Mo_option 47 = .ok (.invokestatic 84, 3) := by decide +kernel
theorem d_Mo_option_50 : decode b_Mo_option 50 = .ok (.ifCond .ne 6, 3) := by decide +kernel
theorem d_Mo_option_53 : decode b_Mo_option 53 = .ok (.bipush (-12), 2) := by decide +kernel
theorem d_Mo_option_55 : decode b_Mo_option 55 = .ok (.ireturn, 1) := by decide +kernel
theorem d_Mo_option_56 : decode b_Mo_option 56 = .ok (.aload_n 0, 1) := by decide +kernel
theorem d_Mo_option_57 : decode b_Mo_option 57 = .ok (.getfield 32, 3) := by decide +kernel
theorem d_Mo_option_60 : decode b_Mo_option 60 = .ok (.iload_n 1, 1) := by decide +kernel
theorem d_Mo_option_61 : decode b_Mo_option 61 = .ok (.iaload, 1) := by decide +kernel
theorem d_Mo_option_62 : decode b_Mo_option 62 = .ok (.istore 6, 2) := by decide +kernel
theorem d_Mo_option_64 : decode b_Mo_option 64 = .ok (.aload_n 0, 1) := by decide +kernel
theorem d_Mo_option_65 : decode b_Mo_option 65 = .ok (.iload_n 1, 1) := by decide +kernel
theorem d_Mo_option_66 : decode b_Mo_option 66 = .ok (.invokevirtual 103, 3) := by decide +kernel
theorem d_Mo_option_69 : decode b_Mo_option 69 = .ok (.ifCond .ne 56, 3) := by decide +kernel
theorem d_Mo_option_72 : decode b_Mo_option 72 = .ok (.iload_n 2, 1) := by decide +kernel
theorem d_Mo_option_73 : decode b_Mo_option 73 = .ok (.iconst 2, 1) := by decide +kernel
theorem d_Mo_option_74 : decode b_Mo_option 74 = .ok (.if_icmp .eq 54, 3) := by decide +kernel
theorem d_Mo_option_77 : decode b_Mo_option 77 = .ok (.aload_n 0, 1) := by decide +kernel
theorem d_Mo_option_78 : decode b_Mo_option 78 = .ok (.getfield 7, 3) := by decide +kernel
theorem d_Mo_option_81 : decode b_Mo_option 81 = .ok (.iload_n 3, 1) := by decide +kernel
theorem d_Mo_option_82 : decode b_Mo_option 82 = .ok (.iaload, 1) := by decide +kernel
theorem d_Mo_option_83 : decode b_Mo_option 83 = .ok (.aload_n 0, 1) := by decide +kernel
theorem d_Mo_option_84 : decode b_Mo_option 84 = .ok (.getfield 13, 3) := by decide +kernel
theorem d_Mo_option_87 : decode b_Mo_option 87 = .ok (.iload 6, 2) := by decide +kernel
theorem d_Mo_option_89 : decode b_Mo_option 89 = .ok (.iaload, 1) := by decide +kernel
theorem d_Mo_option_90 : decode b_Mo_option 90 = .ok (.if_icmp .ne 35, 3) := by decide +kernel
theorem d_Mo_option_93 : decode b_Mo_option 93 = .ok (.aload_n 0, 1) := by decide +kernel
theorem d_Mo_option_94 : decode b_Mo_option 94 = .ok (.getfield 13, 3) := by decide +kernel
theorem d_Mo_option_97 : decode b_Mo_option 97 = .ok (.iload_n 3, 1) := by decide +kernel
theorem d_Mo_option_98 : decode b_Mo_option 98 = .ok (.iaload, 1) := by decide +kernel
theorem d_Mo_option_99 : decode b_Mo_option 99 = .ok (.aload_n 0, 1) := by decide +kernel
theorem d_Mo_option_100 : decode b_Mo_option 100 = .ok (.getfield 35, 3) := by decide +kernel
theorem d_Mo_option_103 : decode b_Mo_option 103 = .ok (.iload_n 1, 1) := by decide +kernel
theorem d_Mo_option_104 : decode b_Mo_option 104 = .ok (.iaload, 1) := by decide +kernel
theorem d_Mo_option_105 : decode b_Mo_option 105 = .ok (.if_icmp .ne 20, 3) := by decide +kernel
theorem d_Mo_option_108 : decode b_Mo_option 108 = .ok (.aload_n 0, 1) := by decide +kernel
theorem d_Mo_option_109 : decode b_Mo_option 109 = .ok (.getfield 16, 3) := by decide +kernel
theorem d_Mo_option_112 : decode b_Mo_option 112 = .ok (.iload_n 3, 1) := by decide +kernel
theorem d_Mo_option_113 : decode b_Mo_option 113 = .ok (.laload, 1) := by decide +kernel
theorem d_Mo_option_114 : decode b_Mo_option 114 = .ok (.aload_n 0, 1) := by decide +kernel
theorem d_Mo_option_115 : decode b_Mo_option 115 = .ok (.getfield 16, 3) := by decide +kernel
theorem d_Mo_option_118 : decode b_Mo_option 118 = .ok (.iload 6, 2) := by decide +kernel
theorem d_Mo_option_120 : decode b_Mo_option 120 = .ok (.laload, 1) := by decide +kernel
theorem d_Mo_option_121 : decode b_Mo_option 121 = .ok (.lcmp, 1) := by decide +kernel
theorem d_Mo_option_122 : decode b_Mo_option 122 = .ok (.ifCond .gt 6, 3) := by decide +kernel
theorem d_Mo_option_125 : decode b_Mo_option 125 = .ok (.bipush (-13), 2) := by decide +kernel
theorem d_Mo_option_127 : decode b_Mo_option 127 = .ok (.ireturn, 1) := by decide +kernel
theorem d_Mo_option_128 : decode b_Mo_option 128 = .ok (.aload_n 0, 1) := by decide +kernel
theorem d_Mo_option_129 : decode b_Mo_option 129 = .ok (.getfield 44, 3) := by decide +kernel
theorem d_Mo_option_132 : decode b_Mo_option 132 = .ok (.iload_n 1, 1) := by decide +kernel
theorem d_Mo_option_133 : decode b_Mo_option 133 = .ok (.iaload, 1) := by decide +kernel
theorem d_Mo_option_134 : decode b_Mo_option 134 = .ok (.iconst 4, 1) := by decide +kernel
theorem d_Mo_option_135 : decode b_Mo_option 135 = .ok (.if_icmp .ne 6, 3) := by decide +kernel
theorem d_Mo_option_138 : decode b_Mo_option 138 = .ok (.bipush (-14), 2) := by decide +kernel
theorem d_Mo_option_140 : decode b_Mo_option 140 = .ok (.ireturn, 1) := by decide +kernel
theorem d_Mo_option_141 : decode b_Mo_option 141 = .ok (.iconst 4, 1) := by decide +kernel
theorem d_Mo_option_142 : decode b_Mo_option 142 = .ok (.iload_n 1, 1) := by decide +kernel
theorem d_Mo_option_143 : decode b_Mo_option 143 = .ok (.imul, 1) := by decide +kernel
theorem d_Mo_option_144 : decode b_Mo_option 144 = .ok (.aload_n 0, 1) := by decide +kernel
theorem d_Mo_option_145 : decode b_Mo_option 145 = .ok (.getfield 44, 3) := by decide +kernel
theorem d_Mo_option_148 : decode b_Mo_option 148 = .ok (.iload_n 1, 1) := by decide +kernel
theorem d_Mo_option_149 : decode b_Mo_option 149 = .ok (.iaload, 1) := by decide +kernel
theorem d_Mo_option_150 : decode b_Mo_option 150 = .ok (.iadd, 1) := by decide +kernel
theorem d_Mo_option_151 : decode b_Mo_option 151 = .ok (.istore 7, 2) := by decide +kernel
theorem d_Mo_option_153 : decode b_Mo_option 153 = .ok (.aload_n 0, 1) := by decide +kernel
theorem d_Mo_option_154 : decode b_Mo_option 154 = .ok (.getfield 50, 3) := by decide +kernel
theorem d_Mo_option_157 : decode b_Mo_option 157 = .ok (.iload 7, 2) := by decide +kernel
theorem d_Mo_option_159 : decode b_Mo_option 159 = .ok (.iload_n 2, 1) := by decide +kernel
theorem d_Mo_option_160 : decode b_Mo_option 160 = .ok (.iastore, 1) := by decide +kernel
theorem d_Mo_option_161 : decode b_Mo_option 161 = .ok (.aload_n 0, 1) := by decide +kernel
theorem d_Mo_option_162 : decode b_Mo_option 162 = .ok (.getfield 53, 3) := by decide +kernel
theorem d_Mo_option_165 : decode b_Mo_option 165 = .ok (.iload 7, 2) := by decide +kernel
theorem d_Mo_option_167 : decode b_Mo_option 167 = .ok (.iload_n 2, 1) := by decide +kernel
theorem d_Mo_option_168 : decode b_Mo_option 168 = .ok (.iconst 2, 1) := by decide +kernel
theorem d_Mo_option_169 : decode b_Mo_option 169 = .ok (.if_icmp .ne 7, 3) := by decide +kernel
theorem d_Mo_option_172 : decode b_Mo_option 172 = .ok (.iconst 0, 1) := by decide +kernel
theorem d_Mo_option_173 : decode b_Mo_option 173 = .ok (.goto 4, 3) := by decide +kernel
theorem d_Mo_option_176 : decode b_Mo_option 176 = .ok (.iload_n 3, 1) := by decide +kernel
theorem d_Mo_option_177 : decode b_Mo_option 177 = .ok (.iastore, 1) := by decide +kernel
theorem d_Mo_option_178 : decode b_Mo_option 178 = .ok (.aload_n 0, 1) := by decide +kernel
theorem d_Mo_option_179 : decode b_Mo_option 179 = .ok (.getfield 56, 3) := by decide +kernel
theorem d_Mo_option_182 : decode b_Mo_option 182 = .ok (.iload 7, 2) := by decide +kernel
theorem d_Mo_option_184 : decode b_Mo_option 184 = .ok (.lload 4, 2) := by decide +kernel
theorem d_Mo_option_186 : decode b_Mo_option 186 = .ok (.lastore, 1) := by decide +kernel
theorem d_Mo_option_187 : decode b_Mo_option 187 = .ok (.aload_n 0, 1) := by decide +kernel
theorem d_Mo_option_188 : decode b_Mo_option 188 = .ok (.getfield 44, 3) := by decide +kernel
theorem d_Mo_option_191 : decode b_Mo_option 191 = .ok (.iload_n 1, 1) := by decide +kernel
theorem d_Mo_option_192 : decode b_Mo_option 192 = .ok (.dup2, 1) := by decide +kernel
theorem d_Mo_option_193 : decode b_Mo_option 193 = .ok (.iaload, 1) := by decide +kernel
theorem d_Mo_option_194 : decode b_Mo_option 194 = .ok (.iconst 1, 1) := by decide +kernel
theorem d_Mo_option_195 : decode b_Mo_option 195 = .ok (.iadd, 1) := by decide +kernel
theorem d_Mo_option_196 : decode b_Mo_option 196 = .ok (.iastore, 1) := by decide +kernel
theorem d_Mo_option_197 : decode b_Mo_option 197 = .ok (.aload_n 0, 1) := by decide +kernel
theorem d_Mo_option_198 : decode b_Mo_option 198 = .ok (.getfield 44, 3) := by decide +kernel
theorem d_Mo_option_201 : decode b_Mo_option 201 = .ok (.iload_n 1, 1) := by decide +kernel
theorem d_Mo_option_202 : decode b_Mo_option 202 = .ok (.iaload, 1) := by decide +kernel
theorem d_Mo_option_203 : decode b_Mo_option 203 = .ok (.iconst 1, 1) := by decide +kernel
theorem d_Mo_option_204 : decode b_Mo_option 204 = .ok (.isub, 1) := by decide +kernel
theorem d_Mo_option_205 : decode b_Mo_option 205 = .ok (.ireturn, 1) := by decide +kernel
theorem d_Mo_waits_0 : decode b_Mo_waits 0 = .ok (.aload_n 0, 1) := by decide +kernel
theorem d_Mo_waits_1 : decode b_Mo_waits 1 = .ok (.iconst 0, 1) := by decide +kernel
theorem d_Mo_waits_2 : decode b_Mo_waits 2 = .ok (.putfield 72, 3) := by decide +kernel
theorem d_Mo_waits_5 : decode b_Mo_waits 5 = .ok (.aload_n 0, 1) := by decide +kernel
theorem d_Mo_waits_6 : decode b_Mo_waits 6 = .ok (.iload_n 1, 1) := by decide +kernel
theorem d_Mo_waits_7 : decode b_Mo_waits 7 = .ok (.invokevirtual 90, 3) := by decide +kernel
theorem d_Mo_waits_10 : decode b_Mo_waits 10 = .ok (.ifCond .ne 6, 3) := by decide +kernel
theorem d_Mo_waits_13 : decode b_Mo_waits 13 = .ok (.bipush (-11), 2) := by decide +kernel
theorem d_Mo_waits_15 : decode b_Mo_waits 15 = .ok (.ireturn, 1) := by decide +kernel
theorem d_Mo_waits_16 : decode b_Mo_waits 16 = .ok (.lload_n 2, 1) := by decide +kernel
theorem d_Mo_waits_17 : decode b_Mo_waits 17 = .ok (.lconst 0, 1) := by decide +kernel
theorem d_Mo_waits_18 : decode b_Mo_waits 18 = .ok (.ldc2_w 106, 3) := by decide +kernel
theorem d_Mo_waits_21 : decode b_Mo_waits 21 = .ok (.invokestatic 84, 3) := by decide +kernel
theorem d_Mo_waits_24 : decode b_Mo_waits 24 = .ok (.ifCond .ne 6, 3) := by decide +kernel
theorem d_Mo_waits_27 : decode b_Mo_waits 27 = .ok (.bipush (-12), 2) := by decide +kernel
theorem d_Mo_waits_29 : decode b_Mo_waits 29 = .ok (.ireturn, 1) := by decide +kernel
theorem d_Mo_waits_30 : decode b_Mo_waits 30 = .ok (.aload_n 0, 1) := by decide +kernel
theorem d_Mo_waits_31 : decode b_Mo_waits 31 = .ok (.getfield 26, 3) := by decide +kernel
theorem d_Mo_waits_34 : decode b_Mo_waits 34 = .ok (.iload_n 1, 1) := by decide +kernel
theorem d_Mo_waits_35 : decode b_Mo_waits 35 = .ok (.laload, 1) := by decide +kernel
theorem d_Mo_waits_36 : decode b_Mo_waits 36 = .ok (.l2i, 1) := by decide +kernel
theorem d_Mo_waits_37 : decode b_Mo_waits 37 = .ok (.istore 4, 2) := by decide +kernel
theorem d_Mo_waits_39 : decode b_Mo_waits 39 = .ok (.aload_n 0, 1) := by decide +kernel
theorem d_Mo_waits_40 : decode b_Mo_waits 40 = .ok (.getfield 26, 3) := by decide +kernel
theorem d_Mo_waits_43 : decode b_Mo_waits 43 = .ok (.iload_n 1, 1) := by decide +kernel
theorem d_Mo_waits_44 : decode b_Mo_waits 44 = .ok (.lload_n 2, 1) := by decide +kernel
theorem d_Mo_waits_45 : decode b_Mo_waits 45 = .ok (.lastore, 1) := by decide +kernel
theorem d_Mo_waits_46 : decode b_Mo_waits 46 = .ok (.iload 4, 2) := by decide +kernel
theorem d_Mo_waits_48 : decode b_Mo_waits 48 = .ok (.ireturn, 1) := by decide +kernel
theorem d_Mo_there_0 : decode b_Mo_there 0 = .ok (.aload_n 0, 1) := by decide +kernel
theorem d_Mo_there_1 : decode b_Mo_there 1 = .ok (.getfield 20, 3) := by decide +kernel
theorem d_Mo_there_4 : decode b_Mo_there 4 = .ok (.iload_n 1, 1) := by decide +kernel
theorem d_Mo_there_5 : decode b_Mo_there 5 = .ok (.laload, 1) := by decide +kernel
theorem d_Mo_there_6 : decode b_Mo_there 6 = .ok (.aload_n 0, 1) := by decide +kernel
theorem d_Mo_there_7 : decode b_Mo_there 7 = .ok (.getfield 29, 3) := by decide +kernel
theorem d_Mo_there_10 : decode b_Mo_there 10 = .ok (.iload_n 1, 1) := by decide +kernel
theorem d_Mo_there_11 : decode b_Mo_there 11 = .ok (.laload, 1) := by decide +kernel
theorem d_Mo_there_12 : decode b_Mo_there 12 = .ok (.ladd, 1) := by decide +kernel
theorem d_Mo_there_13 : decode b_Mo_there 13 = .ok (.aload_n 0, 1) := by decide +kernel
theorem d_Mo_there_14 : decode b_Mo_there 14 = .ok (.getfield 16, 3) := by decide +kernel
theorem d_Mo_there_17 : decode b_Mo_there 17 = .ok (.iload_n 1, 1) := by decide +kernel
theorem d_Mo_there_18 : decode b_Mo_there 18 = .ok (.laload, 1) := by decide +kernel
theorem d_Mo_there_19 : decode b_Mo_there 19 = .ok (.lsub, 1) := by decide +kernel
theorem d_Mo_there_20 : decode b_Mo_there 20 = .ok (.lreturn, 1) := by decide +kernel
theorem d_Mo_depart_0 : decode b_Mo_depart 0 = .ok (.aload_n 0, 1) := by decide +kernel
theorem d_Mo_depart_1 : decode b_Mo_depart 1 = .ok (.getfield 16, 3) := by decide +kernel
theorem d_Mo_depart_4 : decode b_Mo_depart 4 = .ok (.iload_n 1, 1) := by decide +kernel
theorem d_Mo_depart_5 : decode b_Mo_depart 5 = .ok (.laload, 1) := by decide +kernel
theorem d_Mo_depart_6 : decode b_Mo_depart 6 = .ok (.aload_n 0, 1) := by decide +kernel
theorem d_Mo_depart_7 : decode b_Mo_depart 7 = .ok (.getfield 23, 3) := by decide +kernel
theorem d_Mo_depart_10 : decode b_Mo_depart 10 = .ok (.iload_n 1, 1) := by decide +kernel
theorem d_Mo_depart_11 : decode b_Mo_depart 11 = .ok (.laload, 1) := by decide +kernel
theorem d_Mo_depart_12 : decode b_Mo_depart 12 = .ok (.ladd, 1) := by decide +kernel
theorem d_Mo_depart_13 : decode b_Mo_depart 13 = .ok (.lstore_n 2, 1) := by decide +kernel
theorem d_Mo_depart_14 : decode b_Mo_depart 14 = .ok (.aload_n 0, 1) := by decide +kernel
theorem d_Mo_depart_15 : decode b_Mo_depart 15 = .ok (.getfield 29, 3) := by decide +kernel
theorem d_Mo_depart_18 : decode b_Mo_depart 18 = .ok (.iload_n 1, 1) := by decide +kernel
theorem d_Mo_depart_19 : decode b_Mo_depart 19 = .ok (.lload_n 2, 1) := by decide +kernel
theorem d_Mo_depart_20 : decode b_Mo_depart 20 = .ok (.lastore, 1) := by decide +kernel
theorem d_Mo_depart_21 : decode b_Mo_depart 21 = .ok (.iconst 1, 1) := by decide +kernel
theorem d_Mo_depart_22 : decode b_Mo_depart 22 = .ok (.istore 4, 2) := by decide +kernel
theorem d_Mo_depart_24 : decode b_Mo_depart 24 = .ok (.iload 4, 2) := by decide +kernel
theorem d_Mo_depart_26 : decode b_Mo_depart 26 = .ok (.aload_n 0, 1) := by decide +kernel
theorem d_Mo_depart_27 : decode b_Mo_depart 27 = .ok (.getfield 79, 3) := by decide +kernel
theorem d_Mo_depart_30 : decode b_Mo_depart 30 = .ok (.if_icmp .gt 136, 3) := by decide +kernel
theorem d_Mo_depart_33 : decode b_Mo_depart 33 = .ok (.iconst 4, 1) := by decide +kernel
theorem d_Mo_depart_34 : decode b_Mo_depart 34 = .ok (.iload 4, 2) := by decide +kernel
theorem d_Mo_depart_36 : decode b_Mo_depart 36 = .ok (.imul, 1) := by decide +kernel
theorem d_Mo_depart_37 : decode b_Mo_depart 37 = .ok (.aload_n 0, 1) := by decide +kernel
theorem d_Mo_depart_38 : decode b_Mo_depart 38 = .ok (.getfield 47, 3) := by decide +kernel
theorem d_Mo_depart_41 : decode b_Mo_depart 41 = .ok (.iload 4, 2) := by decide +kernel
theorem d_Mo_depart_43 : decode b_Mo_depart 43 = .ok (.iaload, 1) := by decide +kernel
theorem d_Mo_depart_44 : decode b_Mo_depart 44 = .ok (.iadd, 1) := by decide +kernel
theorem d_Mo_depart_45 : decode b_Mo_depart 45 = .ok (.istore 5, 2) := by decide +kernel
theorem d_Mo_depart_47 : decode b_Mo_depart 47 = .ok (.aload_n 0, 1) := by decide +kernel
theorem d_Mo_depart_48 : decode b_Mo_depart 48 = .ok (.getfield 44, 3) := by decide +kernel
theorem d_Mo_depart_51 : decode b_Mo_depart 51 = .ok (.iload 4, 2) := by decide +kernel
theorem d_Mo_depart_53 : decode b_Mo_depart 53 = .ok (.iaload, 1) := by decide +kernel
theorem d_Mo_depart_54 : decode b_Mo_depart 54 = .ok (.ifCond .le 29, 3) := by decide +kernel
theorem d_Mo_depart_57 : decode b_Mo_depart 57 = .ok (.aload_n 0, 1) := by decide +kernel
theorem d_Mo_depart_58 : decode b_Mo_depart 58 = .ok (.getfield 50, 3) := by decide +kernel
theorem d_Mo_depart_61 : decode b_Mo_depart 61 = .ok (.iload 5, 2) := by decide +kernel
theorem d_Mo_depart_63 : decode b_Mo_depart 63 = .ok (.iaload, 1) := by decide +kernel
theorem d_Mo_depart_64 : decode b_Mo_depart 64 = .ok (.iconst 1, 1) := by decide +kernel
theorem d_Mo_depart_65 : decode b_Mo_depart 65 = .ok (.if_icmp .ne 18, 3) := by decide +kernel
theorem d_Mo_depart_68 : decode b_Mo_depart 68 = .ok (.aload_n 0, 1) := by decide +kernel
theorem d_Mo_depart_69 : decode b_Mo_depart 69 = .ok (.getfield 53, 3) := by decide +kernel
theorem d_Mo_depart_72 : decode b_Mo_depart 72 = .ok (.iload 5, 2) := by decide +kernel
theorem d_Mo_depart_74 : decode b_Mo_depart 74 = .ok (.iaload, 1) := by decide +kernel
theorem d_Mo_depart_75 : decode b_Mo_depart 75 = .ok (.iload_n 1, 1) := by decide +kernel
theorem d_Mo_depart_76 : decode b_Mo_depart 76 = .ok (.if_icmp .ne 7, 3) := by decide +kernel
theorem d_Mo_depart_79 : decode b_Mo_depart 79 = .ok (.iconst 1, 1) := by decide +kernel
theorem d_Mo_depart_80 : decode b_Mo_depart 80 = .ok (.goto 4, 3) := by decide +kernel
theorem d_Mo_depart_83 : decode b_Mo_depart 83 = .ok (.iconst 0, 1) := by decide +kernel
theorem d_Mo_depart_84 : decode b_Mo_depart 84 = .ok (.istore 6, 2) := by decide +kernel
theorem d_Mo_depart_86 : decode b_Mo_depart 86 = .ok (.iload 6, 2) := by decide +kernel
theorem d_Mo_depart_88 : decode b_Mo_depart 88 = .ok (.ifCond .eq 21, 3) := by decide +kernel
theorem d_Mo_depart_91 : decode b_Mo_depart 91 = .ok (.aload_n 0, 1) := by decide +kernel
theorem d_Mo_depart_92 : decode b_Mo_depart 92 = .ok (.aload_n 0, 1) := by decide +kernel
theorem d_Mo_depart_93 : decode b_Mo_depart 93 = .ok (.getfield 32, 3) := by decide +kernel
theorem d_Mo_depart_96 : decode b_Mo_depart 96 = .ok (.iload 4, 2) := by decide +kernel
theorem d_Mo_depart_98 : decode b_Mo_depart 98 = .ok (.iaload, 1) := by decide +kernel
theorem d_Mo_depart_99 : decode b_Mo_depart 99 = .ok (.invokevirtual 108, 3) := by decide +kernel
theorem d_Mo_depart_102 : decode b_Mo_depart 102 = .ok (.ldc2_w 112, 3) := by decide +kernel
theorem d_Mo_depart_105 : decode b_Mo_depart 105 = .ok (.ladd, 1) := by decide +kernel
theorem d_Mo_depart_106 : decode b_Mo_depart 106 = .ok (.goto 4, 3) := by decide +kernel
theorem d_Mo_depart_109 : decode b_Mo_depart 109 = .ok (.lconst 0, 1) := by decide +kernel
theorem d_Mo_depart_110 : decode b_Mo_depart 110 = .ok (.lstore 7, 2) := by decide +kernel
theorem d_Mo_depart_112 : decode b_Mo_depart 112 = .ok (.aload_n 0, 1) := by decide +kernel
theorem d_Mo_depart_113 : decode b_Mo_depart 113 = .ok (.getfield 29, 3) := by decide +kernel
theorem d_Mo_depart_116 : decode b_Mo_depart 116 = .ok (.iload_n 1, 1) := by decide +kernel
theorem d_Mo_depart_117 : decode b_Mo_depart 117 = .ok (.iload 6, 2) := by decide +kernel
theorem d_Mo_depart_119 : decode b_Mo_depart 119 = .ok (.ifCond .eq 34, 3) := by decide +kernel
theorem d_Mo_depart_122 : decode b_Mo_depart 122 = .ok (.lload 7, 2) := by decide +kernel
theorem d_Mo_depart_124 : decode b_Mo_depart 124 = .ok (.lload_n 2, 1) := by decide +kernel
theorem d_Mo_depart_125 : decode b_Mo_depart 125 = .ok (.aload_n 0, 1) := by decide +kernel
theorem d_Mo_depart_126 : decode b_Mo_depart 126 = .ok (.getfield 26, 3) := by decide +kernel
theorem d_Mo_depart_129 : decode b_Mo_depart 129 = .ok (.iload_n 1, 1) := by decide +kernel
theorem d_Mo_depart_130 : decode b_Mo_depart 130 = .ok (.laload, 1) := by decide +kernel
theorem d_Mo_depart_131 : decode b_Mo_depart 131 = .ok (.ladd, 1) := by decide +kernel
theorem d_Mo_depart_132 : decode b_Mo_depart 132 = .ok (.lcmp, 1) := by decide +kernel
theorem d_Mo_depart_133 : decode b_Mo_depart 133 = .ok (.ifCond .gt 20, 3) := by decide +kernel
theorem d_Mo_depart_136 : decode b_Mo_depart 136 = .ok (.lload 7, 2) := by decide +kernel
theorem d_Mo_depart_138 : decode b_Mo_depart 138 = .ok (.aload_n 0, 1) := by decide +kernel
theorem d_Mo_depart_139 : decode b_Mo_depart 139 = .ok (.getfield 29, 3) := by decide +kernel
theorem d_Mo_depart_142 : decode b_Mo_depart 142 = .ok (.iload_n 1, 1) := by decide +kernel
theorem d_Mo_depart_143 : decode b_Mo_depart 143 = .ok (.laload, 1) := by decide +kernel
theorem d_Mo_depart_144 : decode b_Mo_depart 144 = .ok (.lcmp, 1) := by decide +kernel
theorem d_Mo_depart_145 : decode b_Mo_depart 145 = .ok (.ifCond .le 8, 3) := by decide +kernel
theorem d_Mo_depart_148 : decode b_Mo_depart 148 = .ok (.lload 7, 2) := by decide +kernel
theorem d_Mo_depart_150 : decode b_Mo_depart 150 = .ok (.goto 9, 3) := by decide +kernel
theorem d_Mo_depart_153 : decode b_Mo_depart 153 = .ok (.aload_n 0, 1) := by decide +kernel
theorem d_Mo_depart_154 : decode b_Mo_depart 154 = .ok (.getfield 29, 3) := by decide +kernel
theorem d_Mo_depart_157 : decode b_Mo_depart 157 = .ok (.iload_n 1, 1) := by decide +kernel
theorem d_Mo_depart_158 : decode b_Mo_depart 158 = .ok (.laload, 1) := by decide +kernel
theorem d_Mo_depart_159 : decode b_Mo_depart 159 = .ok (.lastore, 1) := by decide +kernel
theorem d_Mo_depart_160 : decode b_Mo_depart 160 = .ok (.iinc 4 1, 3) := by decide +kernel
theorem d_Mo_depart_163 : decode b_Mo_depart 163 = .ok (.goto (-139), 3) := by decide +kernel
theorem d_Mo_depart_166 : decode b_Mo_depart 166 = .ok (.return_, 1) := by decide +kernel
theorem d_Mo_arrive_0 : decode b_Mo_arrive 0 = .ok (.aload_n 0, 1) := by decide +kernel
theorem d_Mo_arrive_1 : decode b_Mo_arrive 1 = .ok (.aload_n 0, 1) := by decide +kernel
theorem d_Mo_arrive_2 : decode b_Mo_arrive 2 = .ok (.getfield 32, 3) := by decide +kernel
theorem d_Mo_arrive_5 : decode b_Mo_arrive 5 = .ok (.iload_n 1, 1) := by decide +kernel
theorem d_Mo_arrive_6 : decode b_Mo_arrive 6 = .ok (.iaload, 1) := by decide +kernel
theorem d_Mo_arrive_7 : decode b_Mo_arrive 7 = .ok (.invokevirtual 108, 3) := by decide +kernel
theorem d_Mo_arrive_10 : decode b_Mo_arrive 10 = .ok (.lstore_n 2, 1) := by decide +kernel
theorem d_Mo_arrive_11 : decode b_Mo_arrive 11 = .ok (.aload_n 0, 1) := by decide +kernel
theorem d_Mo_arrive_12 : decode b_Mo_arrive 12 = .ok (.getfield 62, 3) := by decide +kernel
theorem d_Mo_arrive_15 : decode b_Mo_arrive 15 = .ok (.iload_n 1, 1) := by decide +kernel
theorem d_Mo_arrive_16 : decode b_Mo_arrive 16 = .ok (.iconst 0, 1) := by decide +kernel
theorem d_Mo_arrive_17 : decode b_Mo_arrive 17 = .ok (.bastore, 1) := by decide +kernel
theorem d_Mo_arrive_18 : decode b_Mo_arrive 18 = .ok (.aload_n 0, 1) := by decide +kernel
theorem d_Mo_arrive_19 : decode b_Mo_arrive 19 = .ok (.iload_n 1, 1) := by decide +kernel
theorem d_Mo_arrive_20 : decode b_Mo_arrive 20 = .ok (.invokevirtual 103, 3) := by decide +kernel
theorem d_Mo_arrive_23 : decode b_Mo_arrive 23 = .ok (.ifCond .eq 11, 3) := by decide +kernel
theorem d_Mo_arrive_26 : decode b_Mo_arrive 26 = .ok (.aload_n 0, 1) := by decide +kernel
theorem d_Mo_arrive_27 : decode b_Mo_arrive 27 = .ok (.getfield 59, 3) := by decide +kernel
theorem d_Mo_arrive_30 : decode b_Mo_arrive 30 = .ok (.iload_n 1, 1) := by decide +kernel
theorem d_Mo_arrive_31 : decode b_Mo_arrive 31 = .ok (.lload_n 2, 1) := by decide +kernel
theorem d_Mo_arrive_32 : decode b_Mo_arrive 32 = .ok (.lastore, 1) := by decide +kernel
theorem d_Mo_arrive_33 : decode b_Mo_arrive 33 = .ok (.return_, 1) := by decide +kernel
theorem d_Mo_arrive_34 : decode b_Mo_arrive 34 = .ok (.iconst 4, 1) := by decide +kernel
theorem d_Mo_arrive_35 : decode b_Mo_arrive 35 = .ok (.iload_n 1, 1) := by decide +kernel
theorem d_Mo_arrive_36 : decode b_Mo_arrive 36 = .ok (.imul, 1) := by decide +kernel
theorem d_Mo_arrive_37 : decode b_Mo_arrive 37 = .ok (.aload_n 0, 1) := by decide +kernel
theorem d_Mo_arrive_38 : decode b_Mo_arrive 38 = .ok (.getfield 47, 3) := by decide +kernel
theorem d_Mo_arrive_41 : decode b_Mo_arrive 41 = .ok (.iload_n 1, 1) := by decide +kernel
theorem d_Mo_arrive_42 : decode b_Mo_arrive 42 = .ok (.iaload, 1) := by decide +kernel
theorem d_Mo_arrive_43 : decode b_Mo_arrive 43 = .ok (.iadd, 1) := by decide +kernel
theorem d_Mo_arrive_44 : decode b_Mo_arrive 44 = .ok (.istore 4, 2) := by decide +kernel
theorem d_Mo_arrive_46 : decode b_Mo_arrive 46 = .ok (.aload_n 0, 1) := by decide +kernel
theorem d_Mo_arrive_47 : decode b_Mo_arrive 47 = .ok (.getfield 44, 3) := by decide +kernel
theorem d_Mo_arrive_50 : decode b_Mo_arrive 50 = .ok (.iload_n 1, 1) := by decide +kernel
theorem d_Mo_arrive_51 : decode b_Mo_arrive 51 = .ok (.iaload, 1) := by decide +kernel
theorem d_Mo_arrive_52 : decode b_Mo_arrive 52 = .ok (.ifCond .le 26, 3) := by decide +kernel
theorem d_Mo_arrive_55 : decode b_Mo_arrive 55 = .ok (.aload_n 0, 1) := by decide +kernel
theorem d_Mo_arrive_56 : decode b_Mo_arrive 56 = .ok (.getfield 50, 3) := by decide +kernel
theorem d_Mo_arrive_59 : decode b_Mo_arrive 59 = .ok (.iload 4, 2) := by decide +kernel
theorem d_Mo_arrive_61 : decode b_Mo_arrive 61 = .ok (.iaload, 1) := by decide +kernel
theorem d_Mo_arrive_62 : decode b_Mo_arrive 62 = .ok (.iconst 2, 1) := by decide +kernel
theorem d_Mo_arrive_63 : decode b_Mo_arrive 63 = .ok (.if_icmp .ne 15, 3) := by decide +kernel
theorem d_Mo_arrive_66 : decode b_Mo_arrive 66 = .ok (.aload_n 0, 1) := by decide +kernel
theorem d_Mo_arrive_67 : decode b_Mo_arrive 67 = .ok (.getfield 59, 3) := by decide +kernel
theorem d_Mo_arrive_70 : decode b_Mo_arrive 70 = .ok (.iload_n 1, 1) := by decide +kernel
theorem d_Mo_arrive_71 : decode b_Mo_arrive 71 = .ok (.lload_n 2, 1) := by decide +kernel
theorem d_Mo_arrive_72 : decode b_Mo_arrive 72 = .ok (.ldc2_w 114, 3) := by decide +kernel
theorem d_Mo_arrive_75 : decode b_Mo_arrive 75 = .ok (.ladd, 1) := by decide +kernel
theorem d_Mo_arrive_76 : decode b_Mo_arrive 76 = .ok (.lastore, 1) := by decide +kernel
theorem d_Mo_arrive_77 : decode b_Mo_arrive 77 = .ok (.return_, 1) := by decide +kernel
theorem d_Mo_arrive_78 : decode b_Mo_arrive 78 = .ok (.aload_n 0, 1) := by decide +kernel
theorem d_Mo_arrive_79 : decode b_Mo_arrive 79 = .ok (.getfield 44, 3) := by decide +kernel
theorem d_Mo_arrive_82 : decode b_Mo_arrive 82 = .ok (.iload_n 1, 1) := by decide +kernel
theorem d_Mo_arrive_83 : decode b_Mo_arrive 83 = .ok (.iaload, 1) := by decide +kernel
theorem d_Mo_arrive_84 : decode b_Mo_arrive 84 = .ok (.ifCond .le 28, 3) := by decide +kernel
theorem d_Mo_arrive_87 : decode b_Mo_arrive 87 = .ok (.aload_n 0, 1) := by decide +kernel
theorem d_Mo_arrive_88 : decode b_Mo_arrive 88 = .ok (.getfield 29, 3) := by decide +kernel
theorem d_Mo_arrive_91 : decode b_Mo_arrive 91 = .ok (.aload_n 0, 1) := by decide +kernel
theorem d_Mo_arrive_92 : decode b_Mo_arrive 92 = .ok (.getfield 53, 3) := by decide +kernel
theorem d_Mo_arrive_95 : decode b_Mo_arrive 95 = .ok (.iload 4, 2) := by decide +kernel
theorem d_Mo_arrive_97 : decode b_Mo_arrive 97 = .ok (.iaload, 1) := by decide +kernel
theorem d_Mo_arrive_98 : decode b_Mo_arrive 98 = .ok (.laload, 1) := by decide +kernel
theorem d_Mo_arrive_99 : decode b_Mo_arrive 99 = .ok (.lload_n 2, 1) := by decide +kernel
theorem d_Mo_arrive_100 : decode b_Mo_arrive 100 = .ok (.ldc2_w 112, 3) := by decide +kernel
theorem d_Mo_arrive_103 : decode b_Mo_arrive 103 = .ok (.ladd, 1) := by decide +kernel
theorem d_Mo_arrive_104 : decode b_Mo_arrive 104 = .ok (.lcmp, 1) := by decide +kernel
theorem d_Mo_arrive_105 : decode b_Mo_arrive 105 = .ok (.ifCond .lt 7, 3) := by decide +kernel
theorem d_Mo_arrive_108 : decode b_Mo_arrive 108 = .ok (.iconst 1, 1) := by decide +kernel
theorem d_Mo_arrive_109 : decode b_Mo_arrive 109 = .ok (.goto 4, 3) := by decide +kernel
theorem d_Mo_arrive_112 : decode b_Mo_arrive 112 = .ok (.iconst 0, 1) := by decide +kernel
theorem d_Mo_arrive_113 : decode b_Mo_arrive 113 = .ok (.istore 5, 2) := by decide +kernel
theorem d_Mo_arrive_115 : decode b_Mo_arrive 115 = .ok (.aload_n 0, 1) := by decide +kernel
theorem d_Mo_arrive_116 : decode b_Mo_arrive 116 = .ok (.getfield 62, 3) := by decide +kernel
theorem d_Mo_arrive_119 : decode b_Mo_arrive 119 = .ok (.iload_n 1, 1) := by decide +kernel
theorem d_Mo_arrive_120 : decode b_Mo_arrive 120 = .ok (.iload 5, 2) := by decide +kernel
theorem d_Mo_arrive_122 : decode b_Mo_arrive 122 = .ok (.ifCond .ne 7, 3) := by decide +kernel
theorem d_Mo_arrive_125 : decode b_Mo_arrive 125 = .ok (.iconst 1, 1) := by decide +kernel
theorem d_Mo_arrive_126 : decode b_Mo_arrive 126 = .ok (.goto 4, 3) := by decide +kernel
theorem d_Mo_arrive_129 : decode b_Mo_arrive 129 = .ok (.iconst 0, 1) := by decide +kernel
theorem d_Mo_arrive_130 : decode b_Mo_arrive 130 = .ok (.bastore, 1) := by decide +kernel
theorem d_Mo_arrive_131 : decode b_Mo_arrive 131 = .ok (.aload_n 0, 1) := by decide +kernel
theorem d_Mo_arrive_132 : decode b_Mo_arrive 132 = .ok (.getfield 59, 3) := by decide +kernel
theorem d_Mo_arrive_135 : decode b_Mo_arrive 135 = .ok (.iload_n 1, 1) := by decide +kernel
theorem d_Mo_arrive_136 : decode b_Mo_arrive 136 = .ok (.iload 5, 2) := by decide +kernel
theorem d_Mo_arrive_138 : decode b_Mo_arrive 138 = .ok (.ifCond .eq 17, 3) := by decide +kernel
theorem d_Mo_arrive_141 : decode b_Mo_arrive 141 = .ok (.aload_n 0, 1) := by decide +kernel
theorem d_Mo_arrive_142 : decode b_Mo_arrive 142 = .ok (.aload_n 0, 1) := by decide +kernel
theorem d_Mo_arrive_143 : decode b_Mo_arrive 143 = .ok (.getfield 53, 3) := by decide +kernel
theorem d_Mo_arrive_146 : decode b_Mo_arrive 146 = .ok (.iload 4, 2) := by decide +kernel
theorem d_Mo_arrive_148 : decode b_Mo_arrive 148 = .ok (.iaload, 1) := by decide +kernel
theorem d_Mo_arrive_149 : decode b_Mo_arrive 149 = .ok (.invokevirtual 108, 3) := by decide +kernel
theorem d_Mo_arrive_152 : decode b_Mo_arrive 152 = .ok (.goto 8, 3) := by decide +kernel
theorem d_Mo_arrive_155 : decode b_Mo_arrive 155 = .ok (.lload_n 2, 1) := by decide +kernel
theorem d_Mo_arrive_156 : decode b_Mo_arrive 156 = .ok (.ldc2_w 116, 3) := by decide +kernel
theorem d_Mo_arrive_159 : decode b_Mo_arrive 159 = .ok (.ladd, 1) := by decide +kernel
theorem d_Mo_arrive_160 : decode b_Mo_arrive 160 = .ok (.lastore, 1) := by decide +kernel
theorem d_Mo_arrive_161 : decode b_Mo_arrive 161 = .ok (.return_, 1) := by decide +kernel
theorem d_Mo_reckon_0 : decode b_Mo_reckon 0 = .ok (.ldc2_w 118, 3) := by decide +kernel
theorem d_Mo_reckon_3 : decode b_Mo_reckon 3 = .ok (.lstore_n 1, 1) := by decide +kernel
theorem d_Mo_reckon_4 : decode b_Mo_reckon 4 = .ok (.iconst 0, 1) := by decide +kernel
theorem d_Mo_reckon_5 : decode b_Mo_reckon 5 = .ok (.istore_n 3, 1) := by decide +kernel
theorem d_Mo_reckon_6 : decode b_Mo_reckon 6 = .ok (.iconst 0, 1) := by decide +kernel
theorem d_Mo_reckon_7 : decode b_Mo_reckon 7 = .ok (.istore 4, 2) := by decide +kernel
theorem d_Mo_reckon_9 : decode b_Mo_reckon 9 = .ok (.iload 4, 2) := by decide +kernel
theorem d_Mo_reckon_11 : decode b_Mo_reckon 11 = .ok (.aload_n 0, 1) := by decide +kernel
theorem d_Mo_reckon_12 : decode b_Mo_reckon 12 = .ok (.getfield 76, 3) := by decide +kernel
theorem d_Mo_reckon_15 : decode b_Mo_reckon 15 = .ok (.if_icmp .ge 121, 3) := by decide +kernel
theorem d_Mo_reckon_18 : decode b_Mo_reckon 18 = .ok (.iconst 0, 1) := by decide +kernel
theorem d_Mo_reckon_19 : decode b_Mo_reckon 19 = .ok (.istore 5, 2) := by decide +kernel
theorem d_Mo_reckon_21 : decode b_Mo_reckon 21 = .ok (.iconst 1, 1) := by decide +kernel
theorem d_Mo_reckon_22 : decode b_Mo_reckon 22 = .ok (.istore 6, 2) := by decide +kernel
theorem d_Mo_reckon_24 : decode b_Mo_reckon 24 = .ok (.iload 6, 2) := by decide +kernel
theorem d_Mo_reckon_26 : decode b_Mo_reckon 26 = .ok (.aload_n 0, 1) := by decide +kernel
theorem d_Mo_reckon_27 : decode b_Mo_reckon 27 = .ok (.getfield 76, 3) := by decide +kernel
theorem d_Mo_reckon_30 : decode b_Mo_reckon 30 = .ok (.if_icmp .gt 83, 3) := by decide +kernel
theorem d_Mo_reckon_33 : decode b_Mo_reckon 33 = .ok (.aload_n 0, 1) := by decide +kernel
theorem d_Mo_reckon_34 : decode b_Mo_reckon 34 = .ok (.getfield 16, 3) := by decide +kernel
theorem d_Mo_reckon_37 : decode b_Mo_reckon 37 = .ok (.iload 6, 2) := by decide +kernel
theorem d_Mo_reckon_39 : decode b_Mo_reckon 39 = .ok (.laload, 1) := by decide +kernel
theorem d_Mo_reckon_40 : decode b_Mo_reckon 40 = .ok (.lload_n 1, 1) := by decide +kernel
theorem d_Mo_reckon_41 : decode b_Mo_reckon 41 = .ok (.lcmp, 1) := by decide +kernel
theorem d_Mo_reckon_42 : decode b_Mo_reckon 42 = .ok (.ifCond .gt 21, 3) := by decide +kernel
theorem d_Mo_reckon_45 : decode b_Mo_reckon 45 = .ok (.aload_n 0, 1) := by decide +kernel
theorem d_Mo_reckon_46 : decode b_Mo_reckon 46 = .ok (.getfield 16, 3) := by decide +kernel
theorem d_Mo_reckon_49 : decode b_Mo_reckon 49 = .ok (.iload 6, 2) := by decide +kernel
theorem d_Mo_reckon_51 : decode b_Mo_reckon 51 = .ok (.laload, 1) := by decide +kernel
theorem d_Mo_reckon_52 : decode b_Mo_reckon 52 = .ok (.lload_n 1, 1) := by decide +kernel
theorem d_Mo_reckon_53 : decode b_Mo_reckon 53 = .ok (.lcmp, 1) := by decide +kernel
theorem d_Mo_reckon_54 : decode b_Mo_reckon 54 = .ok (.ifCond .ne 13, 3) := by decide +kernel
theorem d_Mo_reckon_57 : decode b_Mo_reckon 57 = .ok (.iload 6, 2) := by decide +kernel
theorem d_Mo_reckon_59 : decode b_Mo_reckon 59 = .ok (.iload_n 3, 1) := by decide +kernel
theorem d_Mo_reckon_60 : decode b_Mo_reckon 60 = .ok (.if_icmp .le 7, 3) := by decide +kernel
theorem d_Mo_reckon_63 : decode b_Mo_reckon 63 = .ok (.iconst 1, 1) := by decide +kernel
theorem d_Mo_reckon_64 : decode b_Mo_reckon 64 = .ok (.goto 4, 3) := by decide +kernel
theorem d_Mo_reckon_67 : decode b_Mo_reckon 67 = .ok (.iconst 0, 1) := by decide +kernel
theorem d_Mo_reckon_68 : decode b_Mo_reckon 68 = .ok (.istore 7, 2) := by decide +kernel
theorem d_Mo_reckon_70 : decode b_Mo_reckon 70 = .ok (.iload 7, 2) := by decide +kernel
theorem d_Mo_reckon_72 : decode b_Mo_reckon 72 = .ok (.ifCond .eq 31, 3) := by decide +kernel
theorem d_Mo_reckon_75 : decode b_Mo_reckon 75 = .ok (.iload 5, 2) := by decide +kernel
theorem d_Mo_reckon_77 : decode b_Mo_reckon 77 = .ok (.ifCond .eq 21, 3) := by decide +kernel
theorem d_Mo_reckon_80 : decode b_Mo_reckon 80 = .ok (.aload_n 0, 1) := by decide +kernel
theorem d_Mo_reckon_81 : decode b_Mo_reckon 81 = .ok (.getfield 16, 3) := by decide +kernel
theorem d_Mo_reckon_84 : decode b_Mo_reckon 84 = .ok (.iload 6, 2) := by decide +kernel
theorem d_Mo_reckon_86 : decode b_Mo_reckon 86 = .ok (.laload, 1) := by decide +kernel
theorem d_Mo_reckon_87 : decode b_Mo_reckon 87 = .ok (.aload_n 0, 1) := by decide +kernel
theorem d_Mo_reckon_88 : decode b_Mo_reckon 88 = .ok (.getfield 16, 3) := by decide +kernel
theorem d_Mo_reckon_91 : decode b_Mo_reckon 91 = .ok (.iload 5, 2) := by decide +kernel
theorem d_Mo_reckon_93 : decode b_Mo_reckon 93 = .ok (.laload, 1) := by decide +kernel
theorem d_Mo_reckon_94 : decode b_Mo_reckon 94 = .ok (.lcmp, 1) := by decide +kernel
theorem d_Mo_reckon_95 : decode b_Mo_reckon 95 = .ok (.ifCond .ge 8, 3) := by decide +kernel
theorem d_Mo_reckon_98 : decode b_Mo_reckon 98 = .ok (.iload 6, 2) := by decide +kernel
theorem d_Mo_reckon_100 : decode b_Mo_reckon 100 = .ok (.goto 5, 3) := by decide +kernel
theorem d_Mo_reckon_103 : decode b_Mo_reckon 103 = .ok (.iload 5, 2) := by decide +kernel
theorem d_Mo_reckon_105 : decode b_Mo_reckon 105 = .ok (.istore 5, 2) := by decide +kernel
theorem d_Mo_reckon_107 : decode b_Mo_reckon 107 = .ok (.iinc 6 1, 3) := by decide +kernel
theorem d_Mo_reckon_110 : decode b_Mo_reckon 110 = .ok (.goto (-86), 3) := by decide +kernel
theorem d_Mo_reckon_113 : decode b_Mo_reckon 113 = .ok (.aload_n 0, 1) := by decide +kernel
theorem d_Mo_reckon_114 : decode b_Mo_reckon 114 = .ok (.getfield 16, 3) := by decide +kernel
theorem d_Mo_reckon_117 : decode b_Mo_reckon 117 = .ok (.iload 5, 2) := by decide +kernel
theorem d_Mo_reckon_119 : decode b_Mo_reckon 119 = .ok (.laload, 1) := by decide +kernel
theorem d_Mo_reckon_120 : decode b_Mo_reckon 120 = .ok (.lstore_n 1, 1) := by decide +kernel
theorem d_Mo_reckon_121 : decode b_Mo_reckon 121 = .ok (.iload 5, 2) := by decide +kernel
theorem d_Mo_reckon_123 : decode b_Mo_reckon 123 = .ok (.istore_n 3, 1) := by decide +kernel
theorem d_Mo_reckon_124 : decode b_Mo_reckon 124 = .ok (.aload_n 0, 1) := by decide +kernel
theorem d_Mo_reckon_125 : decode b_Mo_reckon 125 = .ok (.iload 5, 2) := by decide +kernel
theorem d_Mo_reckon_127 : decode b_Mo_reckon 127 = .ok (.invokevirtual 120, 3) := by decide +kernel
theorem d_Mo_reckon_130 : decode b_Mo_reckon 130 = .ok (.iinc 4 1, 3) := by decide +kernel
theorem d_Mo_reckon_133 : decode b_Mo_reckon 133 = .ok (.goto (-124), 3) := by decide +kernel
theorem d_Mo_reckon_136 : decode b_Mo_reckon 136 = .ok (.iconst 1, 1) := by decide +kernel
theorem d_Mo_reckon_137 : decode b_Mo_reckon 137 = .ok (.istore 4, 2) := by decide +kernel
theorem d_Mo_reckon_139 : decode b_Mo_reckon 139 = .ok (.iload 4, 2) := by decide +kernel
theorem d_Mo_reckon_141 : decode b_Mo_reckon 141 = .ok (.aload_n 0, 1) := by decide +kernel
theorem d_Mo_reckon_142 : decode b_Mo_reckon 142 = .ok (.getfield 79, 3) := by decide +kernel
theorem d_Mo_reckon_145 : decode b_Mo_reckon 145 = .ok (.if_icmp .gt 15, 3) := by decide +kernel
theorem d_Mo_reckon_148 : decode b_Mo_reckon 148 = .ok (.aload_n 0, 1) := by decide +kernel
theorem d_Mo_reckon_149 : decode b_Mo_reckon 149 = .ok (.iload 4, 2) := by decide +kernel
theorem d_Mo_reckon_151 : decode b_Mo_reckon 151 = .ok (.invokevirtual 124, 3) := by decide +kernel
theorem d_Mo_reckon_154 : decode b_Mo_reckon 154 = .ok (.iinc 4 1, 3) := by decide +kernel
theorem d_Mo_reckon_157 : decode b_Mo_reckon 157 = .ok (.goto (-18), 3) := by decide +kernel
theorem d_Mo_reckon_160 : decode b_Mo_reckon 160 = .ok (.return_, 1) := by decide +kernel
theorem d_Mo_late_0 : decode b_Mo_late 0 = .ok (.aload_n 0, 1) := by decide +kernel
theorem d_Mo_late_1 : decode b_Mo_late 1 = .ok (.iconst 0, 1) := by decide +kernel
theorem d_Mo_late_2 : decode b_Mo_late 2 = .ok (.putfield 72, 3) := by decide +kernel
theorem d_Mo_late_5 : decode b_Mo_late 5 = .ok (.aload_n 0, 1) := by decide +kernel
theorem d_Mo_late_6 : decode b_Mo_late 6 = .ok (.iload_n 1, 1) := by decide +kernel
theorem d_Mo_late_7 : decode b_Mo_late 7 = .ok (.invokevirtual 90, 3) := by decide +kernel
theorem d_Mo_late_10 : decode b_Mo_late 10 = .ok (.ifCond .ne 6, 3) := by decide +kernel
theorem d_Mo_late_13 : decode b_Mo_late 13 = .ok (.bipush (-11), 2) := by decide +kernel
theorem d_Mo_late_15 : decode b_Mo_late 15 = .ok (.ireturn, 1) := by decide +kernel
theorem d_Mo_late_16 : decode b_Mo_late 16 = .ok (.lload_n 2, 1) := by decide +kernel
theorem d_Mo_late_17 : decode b_Mo_late 17 = .ok (.lconst 0, 1) := by decide +kernel
theorem d_Mo_late_18 : decode b_Mo_late 18 = .ok (.ldc2_w 127, 3) := by decide +kernel
theorem d_Mo_late_21 : decode b_Mo_late 21 = .ok (.invokestatic 84, 3) := by decide +kernel
theorem d_Mo_late_24 : decode b_Mo_late 24 = .ok (.ifCond .ne 6, 3) := by decide +kernel
theorem d_Mo_late_27 : decode b_Mo_late 27 = .ok (.bipush (-12), 2) := by decide +kernel
theorem d_Mo_late_29 : decode b_Mo_late 29 = .ok (.ireturn, 1) := by decide +kernel
theorem d_Mo_late_30 : decode b_Mo_late 30 = .ok (.aload_n 0, 1) := by decide +kernel
theorem d_Mo_late_31 : decode b_Mo_late 31 = .ok (.getfield 23, 3) := by decide +kernel
theorem d_Mo_late_34 : decode b_Mo_late 34 = .ok (.iload_n 1, 1) := by decide +kernel
theorem d_Mo_late_35 : decode b_Mo_late 35 = .ok (.lload_n 2, 1) := by decide +kernel
theorem d_Mo_late_36 : decode b_Mo_late 36 = .ok (.lastore, 1) := by decide +kernel
theorem d_Mo_late_37 : decode b_Mo_late 37 = .ok (.aload_n 0, 1) := by decide +kernel
theorem d_Mo_late_38 : decode b_Mo_late 38 = .ok (.invokevirtual 129, 3) := by decide +kernel
theorem d_Mo_late_41 : decode b_Mo_late 41 = .ok (.iconst 0, 1) := by decide +kernel
theorem d_Mo_late_42 : decode b_Mo_late 42 = .ok (.istore 4, 2) := by decide +kernel
theorem d_Mo_late_44 : decode b_Mo_late 44 = .ok (.iconst 1, 1) := by decide +kernel
theorem d_Mo_late_45 : decode b_Mo_late 45 = .ok (.istore 5, 2) := by decide +kernel
theorem d_Mo_late_47 : decode b_Mo_late 47 = .ok (.iload 5, 2) := by decide +kernel
theorem d_Mo_late_49 : decode b_Mo_late 49 = .ok (.aload_n 0, 1) := by decide +kernel
theorem d_Mo_late_50 : decode b_Mo_late 50 = .ok (.getfield 79, 3) := by decide +kernel
theorem d_Mo_late_53 : decode b_Mo_late 53 = .ok (.if_icmp .gt 47, 3) := by decide +kernel
theorem d_Mo_late_56 : decode b_Mo_late 56 = .ok (.iload 4, 2) := by decide +kernel
theorem d_Mo_late_58 : decode b_Mo_late 58 = .ok (.aload_n 0, 1) := by decide +kernel
theorem d_Mo_late_59 : decode b_Mo_late 59 = .ok (.getfield 62, 3) := by decide +kernel
theorem d_Mo_late_62 : decode b_Mo_late 62 = .ok (.iload 5, 2) := by decide +kernel
theorem d_Mo_late_64 : decode b_Mo_late 64 = .ok (.baload, 1) := by decide +kernel
theorem d_Mo_late_65 : decode b_Mo_late 65 = .ok (.ifCond .ne 21, 3) := by decide +kernel
theorem d_Mo_late_68 : decode b_Mo_late 68 = .ok (.aload_n 0, 1) := by decide +kernel
theorem d_Mo_late_69 : decode b_Mo_late 69 = .ok (.getfield 59, 3) := by decide +kernel
theorem d_Mo_late_72 : decode b_Mo_late 72 = .ok (.iload 5, 2) := by decide +kernel
theorem d_Mo_late_74 : decode b_Mo_late 74 = .ok (.laload, 1) := by decide +kernel
theorem d_Mo_late_75 : decode b_Mo_late 75 = .ok (.aload_n 0, 1) := by decide +kernel
theorem d_Mo_late_76 : decode b_Mo_late 76 = .ok (.getfield 38, 3) := by decide +kernel
theorem d_Mo_late_79 : decode b_Mo_late 79 = .ok (.iload 5, 2) := by decide +kernel
theorem d_Mo_late_81 : decode b_Mo_late 81 = .ok (.laload, 1) := by decide +kernel
theorem d_Mo_late_82 : decode b_Mo_late 82 = .ok (.lcmp, 1) := by decide +kernel
theorem d_Mo_late_83 : decode b_Mo_late 83 = .ok (.ifCond .le 7, 3) := by decide +kernel
theorem d_Mo_late_86 : decode b_Mo_late 86 = .ok (.iconst 1, 1) := by decide +kernel
theorem d_Mo_late_87 : decode b_Mo_late 87 = .ok (.goto 4, 3) := by decide +kernel
theorem d_Mo_late_90 : decode b_Mo_late 90 = .ok (.iconst 0, 1) := by decide +kernel
theorem d_Mo_late_91 : decode b_Mo_late 91 = .ok (.iadd, 1) := by decide +kernel
theorem d_Mo_late_92 : decode b_Mo_late 92 = .ok (.istore 4, 2) := by decide +kernel
theorem d_Mo_late_94 : decode b_Mo_late 94 = .ok (.iinc 5 1, 3) := by decide +kernel
theorem d_Mo_late_97 : decode b_Mo_late 97 = .ok (.goto (-50), 3) := by decide +kernel
theorem d_Mo_late_100 : decode b_Mo_late 100 = .ok (.iload 4, 2) := by decide +kernel
theorem d_Mo_late_102 : decode b_Mo_late 102 = .ok (.ireturn, 1) := by decide +kernel
theorem d_Mo_tell_0 : decode b_Mo_tell 0 = .ok (.aload_n 0, 1) := by decide +kernel
theorem d_Mo_tell_1 : decode b_Mo_tell 1 = .ok (.iconst 0, 1) := by decide +kernel
theorem d_Mo_tell_2 : decode b_Mo_tell 2 = .ok (.putfield 72, 3) := by decide +kernel
theorem d_Mo_tell_5 : decode b_Mo_tell 5 = .ok (.aload_n 0, 1) := by decide +kernel
theorem d_Mo_tell_6 : decode b_Mo_tell 6 = .ok (.iload_n 1, 1) := by decide +kernel
theorem d_Mo_tell_7 : decode b_Mo_tell 7 = .ok (.invokevirtual 90, 3) := by decide +kernel
theorem d_Mo_tell_10 : decode b_Mo_tell 10 = .ok (.ifCond .ne 6, 3) := by decide +kernel
theorem d_Mo_tell_13 : decode b_Mo_tell 13 = .ok (.bipush (-11), 2) := by decide +kernel
theorem d_Mo_tell_15 : decode b_Mo_tell 15 = .ok (.ireturn, 1) := by decide +kernel
theorem d_Mo_tell_16 : decode b_Mo_tell 16 = .ok (.lload_n 2, 1) := by decide +kernel
theorem d_Mo_tell_17 : decode b_Mo_tell 17 = .ok (.lconst 0, 1) := by decide +kernel
theorem d_Mo_tell_18 : decode b_Mo_tell 18 = .ok (.ldc2_w 127, 3) := by decide +kernel
theorem d_Mo_tell_21 : decode b_Mo_tell 21 = .ok (.invokestatic 84, 3) := by decide +kernel
theorem d_Mo_tell_24 : decode b_Mo_tell 24 = .ok (.ifCond .ne 6, 3) := by decide +kernel
theorem d_Mo_tell_27 : decode b_Mo_tell 27 = .ok (.bipush (-12), 2) := by decide +kernel
theorem d_Mo_tell_29 : decode b_Mo_tell 29 = .ok (.ireturn, 1) := by decide +kernel
theorem d_Mo_tell_30 : decode b_Mo_tell 30 = .ok (.aload_n 0, 1) := by decide +kernel
theorem d_Mo_tell_31 : decode b_Mo_tell 31 = .ok (.invokevirtual 129, 3) := by decide +kernel
theorem d_Mo_tell_34 : decode b_Mo_tell 34 = .ok (.iconst 1, 1) := by decide +kernel
theorem d_Mo_tell_35 : decode b_Mo_tell 35 = .ok (.istore 4, 2) := by decide +kernel
theorem d_Mo_tell_37 : decode b_Mo_tell 37 = .ok (.iload 4, 2) := by decide +kernel
theorem d_Mo_tell_39 : decode b_Mo_tell 39 = .ok (.aload_n 0, 1) := by decide +kernel
theorem d_Mo_tell_40 : decode b_Mo_tell 40 = .ok (.getfield 79, 3) := by decide +kernel
theorem d_Mo_tell_43 : decode b_Mo_tell 43 = .ok (.if_icmp .gt 23, 3) := by decide +kernel
theorem d_Mo_tell_46 : decode b_Mo_tell 46 = .ok (.aload_n 0, 1) := by decide +kernel
theorem d_Mo_tell_47 : decode b_Mo_tell 47 = .ok (.getfield 69, 3) := by decide +kernel
theorem d_Mo_tell_50 : decode b_Mo_tell 50 = .ok (.iload 4, 2) := by decide +kernel
theorem d_Mo_tell_52 : decode b_Mo_tell 52 = .ok (.aload_n 0, 1) := by decide +kernel
theorem d_Mo_tell_53 : decode b_Mo_tell 53 = .ok (.getfield 59, 3) := by decide +kernel
theorem d_Mo_tell_56 : decode b_Mo_tell 56 = .ok (.iload 4, 2) := by decide +kernel
theorem d_Mo_tell_58 : decode b_Mo_tell 58 = .ok (.laload, 1) := by decide +kernel
theorem d_Mo_tell_59 : decode b_Mo_tell 59 = .ok (.lastore, 1) := by decide +kernel
theorem d_Mo_tell_60 : decode b_Mo_tell 60 = .ok (.iinc 4 1, 3) := by decide +kernel
theorem d_Mo_tell_63 : decode b_Mo_tell 63 = .ok (.goto (-26), 3) := by decide +kernel
theorem d_Mo_tell_66 : decode b_Mo_tell 66 = .ok (.aload_n 0, 1) := by decide +kernel
theorem d_Mo_tell_67 : decode b_Mo_tell 67 = .ok (.getfield 23, 3) := by decide +kernel
theorem d_Mo_tell_70 : decode b_Mo_tell 70 = .ok (.iload_n 1, 1) := by decide +kernel
theorem d_Mo_tell_71 : decode b_Mo_tell 71 = .ok (.lload_n 2, 1) := by decide +kernel
theorem d_Mo_tell_72 : decode b_Mo_tell 72 = .ok (.lastore, 1) := by decide +kernel
theorem d_Mo_tell_73 : decode b_Mo_tell 73 = .ok (.iconst 1, 1) := by decide +kernel
theorem d_Mo_tell_74 : decode b_Mo_tell 74 = .ok (.istore 4, 2) := by decide +kernel
theorem d_Mo_tell_76 : decode b_Mo_tell 76 = .ok (.iload 4, 2) := by decide +kernel
theorem d_Mo_tell_78 : decode b_Mo_tell 78 = .ok (.aload_n 0, 1) := by decide +kernel
theorem d_Mo_tell_79 : decode b_Mo_tell 79 = .ok (.getfield 79, 3) := by decide +kernel
theorem d_Mo_tell_82 : decode b_Mo_tell 82 = .ok (.if_icmp .gt 99, 3) := by decide +kernel
theorem d_Mo_tell_85 : decode b_Mo_tell 85 = .ok (.aload_n 0, 1) := by decide +kernel
theorem d_Mo_tell_86 : decode b_Mo_tell 86 = .ok (.getfield 32, 3) := by decide +kernel
theorem d_Mo_tell_89 : decode b_Mo_tell 89 = .ok (.iload 4, 2) := by decide +kernel
theorem d_Mo_tell_91 : decode b_Mo_tell 91 = .ok (.iaload, 1) := by decide +kernel
theorem d_Mo_tell_92 : decode b_Mo_tell 92 = .ok (.iload_n 1, 1) := by decide +kernel
theorem d_Mo_tell_93 : decode b_Mo_tell 93 = .ok (.if_icmp .ne 7, 3) := by decide +kernel
theorem d_Mo_tell_96 : decode b_Mo_tell 96 = .ok (.iconst 1, 1) := by decide +kernel
theorem d_Mo_tell_97 : decode b_Mo_tell 97 = .ok (.goto 4, 3) := by decide +kernel
theorem d_Mo_tell_100 : decode b_Mo_tell 100 = .ok (.iconst 0, 1) := by decide +kernel
theorem d_Mo_tell_101 : decode b_Mo_tell 101 = .ok (.istore 5, 2) := by decide +kernel
theorem d_Mo_tell_103 : decode b_Mo_tell 103 = .ok (.iconst 0, 1) := by decide +kernel
theorem d_Mo_tell_104 : decode b_Mo_tell 104 = .ok (.istore 6, 2) := by decide +kernel
theorem d_Mo_tell_106 : decode b_Mo_tell 106 = .ok (.iload 6, 2) := by decide +kernel
theorem d_Mo_tell_108 : decode b_Mo_tell 108 = .ok (.aload_n 0, 1) := by decide +kernel
theorem d_Mo_tell_109 : decode b_Mo_tell 109 = .ok (.getfield 44, 3) := by decide +kernel
theorem d_Mo_tell_112 : decode b_Mo_tell 112 = .ok (.iload 4, 2) := by decide +kernel
theorem d_Mo_tell_114 : decode b_Mo_tell 114 = .ok (.iaload, 1) := by decide +kernel
theorem d_Mo_tell_115 : decode b_Mo_tell 115 = .ok (.if_icmp .ge 37, 3) := by decide +kernel
theorem d_Mo_tell_118 : decode b_Mo_tell 118 = .ok (.iload 5, 2) := by decide +kernel
theorem d_Mo_tell_120 : decode b_Mo_tell 120 = .ok (.ifCond .ne 19, 3) := by decide +kernel
theorem d_Mo_tell_123 : decode b_Mo_tell 123 = .ok (.aload_n 0, 1) := by decide +kernel
theorem d_Mo_tell_124 : decode b_Mo_tell 124 = .ok (.getfield 53, 3) := by decide +kernel
theorem d_Mo_tell_127 : decode b_Mo_tell 127 = .ok (.iconst 4, 1) := by decide +kernel
theorem d_Mo_tell_128 : decode b_Mo_tell 128 = .ok (.iload 4, 2) := by decide +kernel
theorem d_Mo_tell_130 : decode b_Mo_tell 130 = .ok (.imul, 1) := by decide +kernel
theorem d_Mo_tell_131 : decode b_Mo_tell 131 = .ok (.iload 6, 2) := by decide +kernel
theorem d_Mo_tell_133 : decode b_Mo_tell 133 = .ok (.iadd, 1) := by decide +kernel
theorem d_Mo_tell_134 : decode b_Mo_tell 134 = .ok (.iaload, 1) := by decide +kernel
theorem d_Mo_tell_135 : decode b_Mo_tell 135 = .ok (.iload_n 1, 1) := by decide +kernel
theorem d_Mo_tell_136 : decode b_Mo_tell 136 = .ok (.if_icmp .ne 7, 3) := by decide +kernel
theorem d_Mo_tell_139 : decode b_Mo_tell 139 = .ok (.iconst 1, 1) := by decide +kernel
theorem d_Mo_tell_140 : decode b_Mo_tell 140 = .ok (.goto 4, 3) := by decide +kernel
theorem d_Mo_tell_143 : decode b_Mo_tell 143 = .ok (.iconst 0, 1) := by decide +kernel
theorem d_Mo_tell_144 : decode b_Mo_tell 144 = .ok (.istore 5, 2) := by decide +kernel
theorem d_Mo_tell_146 : decode b_Mo_tell 146 = .ok (.iinc 6 1, 3) := by decide +kernel
theorem d_Mo_tell_149 : decode b_Mo_tell 149 = .ok (.goto (-43), 3) := by decide +kernel
theorem d_Mo_tell_152 : decode b_Mo_tell 152 = .ok (.aload_n 0, 1) := by decide +kernel
theorem d_Mo_tell_153 : decode b_Mo_tell 153 = .ok (.getfield 47, 3) := by decide +kernel
theorem d_Mo_tell_156 : decode b_Mo_tell 156 = .ok (.iload 4, 2) := by decide +kernel
theorem d_Mo_tell_158 : decode b_Mo_tell 158 = .ok (.iload 5, 2) := by decide +kernel
theorem d_Mo_tell_160 : decode b_Mo_tell 160 = .ok (.ifCond .eq 7, 3) := by decide +kernel
theorem d_Mo_tell_163 : decode b_Mo_tell 163 = .ok (.iconst 0, 1) := by decide +kernel
theorem d_Mo_tell_164 : decode b_Mo_tell 164 = .ok (.goto 10, 3) := by decide +kernel
theorem d_Mo_tell_167 : decode b_Mo_tell 167 = .ok (.aload_n 0, 1) := by decide +kernel
theorem d_Mo_tell_168 : decode b_Mo_tell 168 = .ok (.getfield 47, 3) := by decide +kernel
theorem d_Mo_tell_171 : decode b_Mo_tell 171 = .ok (.iload 4, 2) := by decide +kernel
theorem d_Mo_tell_173 : decode b_Mo_tell 173 = .ok (.iaload, 1) := by decide +kernel
theorem d_Mo_tell_174 : decode b_Mo_tell 174 = .ok (.iastore, 1) := by decide +kernel
theorem d_Mo_tell_175 : decode b_Mo_tell 175 = .ok (.iinc 4 1, 3) := by decide +kernel
theorem d_Mo_tell_178 : decode b_Mo_tell 178 = .ok (.goto (-102), 3) := by decide +kernel
theorem d_Mo_tell_181 : decode b_Mo_tell 181 = .ok (.aload_n 0, 1) := by decide +kernel
theorem d_Mo_tell_182 : decode b_Mo_tell 182 = .ok (.invokevirtual 129, 3) := by decide +kernel
theorem d_Mo_tell_185 : decode b_Mo_tell 185 = .ok (.iconst 0, 1) := by decide +kernel
theorem d_Mo_tell_186 : decode b_Mo_tell 186 = .ok (.istore 4, 2) := by decide +kernel
theorem d_Mo_tell_188 : decode b_Mo_tell 188 = .ok (.iconst 1, 1) := by decide +kernel
theorem d_Mo_tell_189 : decode b_Mo_tell 189 = .ok (.istore 5, 2) := by decide +kernel
theorem d_Mo_tell_191 : decode b_Mo_tell 191 = .ok (.iload 5, 2) := by decide +kernel
theorem d_Mo_tell_193 : decode b_Mo_tell 193 = .ok (.aload_n 0, 1) := by decide +kernel
theorem d_Mo_tell_194 : decode b_Mo_tell 194 = .ok (.getfield 79, 3) := by decide +kernel
theorem d_Mo_tell_197 : decode b_Mo_tell 197 = .ok (.if_icmp .gt 37, 3) := by decide +kernel
theorem d_Mo_tell_200 : decode b_Mo_tell 200 = .ok (.iload 4, 2) := by decide +kernel
theorem d_Mo_tell_202 : decode b_Mo_tell 202 = .ok (.aload_n 0, 1) := by decide +kernel
theorem d_Mo_tell_203 : decode b_Mo_tell 203 = .ok (.getfield 59, 3) := by decide +kernel
theorem d_Mo_tell_206 : decode b_Mo_tell 206 = .ok (.iload 5, 2) := by decide +kernel
theorem d_Mo_tell_208 : decode b_Mo_tell 208 = .ok (.laload, 1) := by decide +kernel
theorem d_Mo_tell_209 : decode b_Mo_tell 209 = .ok (.aload_n 0, 1) := by decide +kernel
theorem d_Mo_tell_210 : decode b_Mo_tell 210 = .ok (.getfield 69, 3) := by decide +kernel
theorem d_Mo_tell_213 : decode b_Mo_tell 213 = .ok (.iload 5, 2) := by decide +kernel
theorem d_Mo_tell_215 : decode b_Mo_tell 215 = .ok (.laload, 1) := by decide +kernel
theorem d_Mo_tell_216 : decode b_Mo_tell 216 = .ok (.lcmp, 1) := by decide +kernel
theorem d_Mo_tell_217 : decode b_Mo_tell 217 = .ok (.ifCond .eq 7, 3) := by decide +kernel
theorem d_Mo_tell_220 : decode b_Mo_tell 220 = .ok (.iconst 1, 1) := by decide +kernel
theorem d_Mo_tell_221 : decode b_Mo_tell 221 = .ok (.goto 4, 3) := by decide +kernel
theorem d_Mo_tell_224 : decode b_Mo_tell 224 = .ok (.iconst 0, 1) := by decide +kernel
theorem d_Mo_tell_225 : decode b_Mo_tell 225 = .ok (.iadd, 1) := by decide +kernel
theorem d_Mo_tell_226 : decode b_Mo_tell 226 = .ok (.istore 4, 2) := by decide +kernel
theorem d_Mo_tell_228 : decode b_Mo_tell 228 = .ok (.iinc 5 1, 3) := by decide +kernel
theorem d_Mo_tell_231 : decode b_Mo_tell 231 = .ok (.goto (-40), 3) := by decide +kernel
theorem d_Mo_tell_234 : decode b_Mo_tell 234 = .ok (.iload 4, 2) := by decide +kernel
theorem d_Mo_tell_236 : decode b_Mo_tell 236 = .ok (.ireturn, 1) := by decide +kernel
theorem d_Mo_harm_0 : decode b_Mo_harm 0 = .ok (.lconst 0, 1) := by decide +kernel
theorem d_Mo_harm_1 : decode b_Mo_harm 1 = .ok (.lstore_n 1, 1) := by decide +kernel
theorem d_Mo_harm_2 : decode b_Mo_harm 2 = .ok (.iconst 1, 1) := by decide +kernel
theorem d_Mo_harm_3 : decode b_Mo_harm 3 = .ok (.istore_n 3, 1) := by decide +kernel
theorem d_Mo_harm_4 : decode b_Mo_harm 4 = .ok (.iload_n 3, 1) := by decide +kernel
theorem d_Mo_harm_5 : decode b_Mo_harm 5 = .ok (.aload_n 0, 1) := by decide +kernel
theorem d_Mo_harm_6 : decode b_Mo_harm 6 = .ok (.getfield 79, 3) := by decide +kernel
theorem d_Mo_harm_9 : decode b_Mo_harm 9 = .ok (.if_icmp .gt 84, 3) := by decide +kernel
theorem d_Mo_harm_12 : decode b_Mo_harm 12 = .ok (.lload_n 1, 1) := by decide +kernel
theorem d_Mo_harm_13 : decode b_Mo_harm 13 = .ok (.aload_n 0, 1) := by decide +kernel
theorem d_Mo_harm_14 : decode b_Mo_harm 14 = .ok (.getfield 59, 3) := by decide +kernel
theorem d_Mo_harm_17 : decode b_Mo_harm 17 = .ok (.iload_n 3, 1) := by decide +kernel
theorem d_Mo_harm_18 : decode b_Mo_harm 18 = .ok (.laload, 1) := by decide +kernel
theorem d_Mo_harm_19 : decode b_Mo_harm 19 = .ok (.aload_n 0, 1) := by decide +kernel
theorem d_Mo_harm_20 : decode b_Mo_harm 20 = .ok (.getfield 38, 3) := by decide +kernel
theorem d_Mo_harm_23 : decode b_Mo_harm 23 = .ok (.iload_n 3, 1) := by decide +kernel
theorem d_Mo_harm_24 : decode b_Mo_harm 24 = .ok (.laload, 1) := by decide +kernel
theorem d_Mo_harm_25 : decode b_Mo_harm 25 = .ok (.lcmp, 1) := by decide +kernel
theorem d_Mo_harm_26 : decode b_Mo_harm 26 = .ok (.ifCond .le 27, 3) := by decide +kernel
theorem d_Mo_harm_29 : decode b_Mo_harm 29 = .ok (.aload_n 0, 1) := by decide +kernel
theorem d_Mo_harm_30 : decode b_Mo_harm 30 = .ok (.getfield 41, 3) := by decide +kernel
theorem d_Mo_harm_33 : decode b_Mo_harm 33 = .ok (.iload_n 3, 1) := by decide +kernel
theorem d_Mo_harm_34 : decode b_Mo_harm 34 = .ok (.iaload, 1) := by decide +kernel
theorem d_Mo_harm_35 : decode b_Mo_harm 35 = .ok (.i2l, 1) := by decide +kernel
theorem d_Mo_harm_36 : decode b_Mo_harm 36 = .ok (.aload_n 0, 1) := by decide +kernel
theorem d_Mo_harm_37 : decode b_Mo_harm 37 = .ok (.getfield 59, 3) := by decide +kernel
theorem d_Mo_harm_40 : decode b_Mo_harm 40 = .ok (.iload_n 3, 1) := by decide +kernel
theorem d_Mo_harm_41 : decode b_Mo_harm 41 = .ok (.laload, 1) := by decide +kernel
theorem d_Mo_harm_42 : decode b_Mo_harm 42 = .ok (.aload_n 0, 1) := by decide +kernel
theorem d_Mo_harm_43 : decode b_Mo_harm 43 = .ok (.getfield 38, 3) := by decide +kernel
theorem d_Mo_harm_46 : decode b_Mo_harm 46 = .ok (.iload_n 3, 1) := by decide +kernel
theorem d_Mo_harm_47 : decode b_Mo_harm 47 = .ok (.laload, 1) := by decide +kernel
theorem d_Mo_harm_48 : decode b_Mo_harm 48 = .ok (.lsub, 1) := by decide +kernel
theorem d_Mo_harm_49 : decode b_Mo_harm 49 = .ok (.lmul, 1) := by decide +kernel
theorem d_Mo_harm_50 : decode b_Mo_harm 50 = .ok (.goto 4, 3) := by decide +kernel
theorem d_Mo_harm_53 : decode b_Mo_harm 53 = .ok (.lconst 0, 1) := by decide +kernel
theorem d_Mo_harm_54 : decode b_Mo_harm 54 = .ok (.ladd, 1) := by decide +kernel
theorem d_Mo_harm_55 : decode b_Mo_harm 55 = .ok (.lstore_n 1, 1) := by decide +kernel
theorem d_Mo_harm_56 : decode b_Mo_harm 56 = .ok (.lload_n 1, 1) := by decide +kernel
theorem d_Mo_harm_57 : decode b_Mo_harm 57 = .ok (.aload_n 0, 1) := by decide +kernel
theorem d_Mo_harm_58 : decode b_Mo_harm 58 = .ok (.getfield 44, 3) := by decide +kernel
theorem d_Mo_harm_61 : decode b_Mo_harm 61 = .ok (.iload_n 3, 1) := by decide +kernel
theorem d_Mo_harm_62 : decode b_Mo_harm 62 = .ok (.iaload, 1) := by decide +kernel
theorem d_Mo_harm_63 : decode b_Mo_harm 63 = .ok (.ifCond .le 21, 3) := by decide +kernel
theorem d_Mo_harm_66 : decode b_Mo_harm 66 = .ok (.aload_n 0, 1) := by decide +kernel
theorem d_Mo_harm_67 : decode b_Mo_harm 67 = .ok (.getfield 56, 3) := by decide +kernel
theorem d_Mo_harm_70 : decode b_Mo_harm 70 = .ok (.iconst 4, 1) := by decide +kernel
theorem d_Mo_harm_71 : decode b_Mo_harm 71 = .ok (.iload_n 3, 1) := by decide +kernel
theorem d_Mo_harm_72 : decode b_Mo_harm 72 = .ok (.imul, 1) := by decide +kernel
theorem d_Mo_harm_73 : decode b_Mo_harm 73 = .ok (.aload_n 0, 1) := by decide +kernel
theorem d_Mo_harm_74 : decode b_Mo_harm 74 = .ok (.getfield 47, 3) := by decide +kernel
theorem d_Mo_harm_77 : decode b_Mo_harm 77 = .ok (.iload_n 3, 1) := by decide +kernel
theorem d_Mo_harm_78 : decode b_Mo_harm 78 = .ok (.iaload, 1) := by decide +kernel
theorem d_Mo_harm_79 : decode b_Mo_harm 79 = .ok (.iadd, 1) := by decide +kernel
theorem d_Mo_harm_80 : decode b_Mo_harm 80 = .ok (.laload, 1) := by decide +kernel
theorem d_Mo_harm_81 : decode b_Mo_harm 81 = .ok (.goto 4, 3) := by decide +kernel
theorem d_Mo_harm_84 : decode b_Mo_harm 84 = .ok (.lconst 0, 1) := by decide +kernel
theorem d_Mo_harm_85 : decode b_Mo_harm 85 = .ok (.ladd, 1) := by decide +kernel
theorem d_Mo_harm_86 : decode b_Mo_harm 86 = .ok (.lstore_n 1, 1) := by decide +kernel
theorem d_Mo_harm_87 : decode b_Mo_harm 87 = .ok (.iinc 3 1, 3) := by decide +kernel
theorem d_Mo_harm_90 : decode b_Mo_harm 90 = .ok (.goto (-86), 3) := by decide +kernel
theorem d_Mo_harm_93 : decode b_Mo_harm 93 = .ok (.lload_n 1, 1) := by decide +kernel
theorem d_Mo_harm_94 : decode b_Mo_harm 94 = .ok (.lreturn, 1) := by decide +kernel
theorem d_Mo_actsNow_0 : decode b_Mo_actsNow 0 = .ok (.iconst 0, 1) := by decide +kernel
theorem d_Mo_actsNow_1 : decode b_Mo_actsNow 1 = .ok (.istore_n 1, 1) := by decide +kernel
theorem d_Mo_actsNow_2 : decode b_Mo_actsNow 2 = .ok (.iconst 1, 1) := by decide +kernel
theorem d_Mo_actsNow_3 : decode b_Mo_actsNow 3 = .ok (.istore_n 2, 1) := by decide +kernel
theorem d_Mo_actsNow_4 : decode b_Mo_actsNow 4 = .ok (.iload_n 2, 1) := by decide +kernel
theorem d_Mo_actsNow_5 : decode b_Mo_actsNow 5 = .ok (.aload_n 0, 1) := by decide +kernel
theorem d_Mo_actsNow_6 : decode b_Mo_actsNow 6 = .ok (.getfield 79, 3) := by decide +kernel
theorem d_Mo_actsNow_9 : decode b_Mo_actsNow 9 = .ok (.if_icmp .gt 44, 3) := by decide +kernel
theorem d_Mo_actsNow_12 : decode b_Mo_actsNow 12 = .ok (.iload_n 1, 1) := by decide +kernel
theorem d_Mo_actsNow_13 : decode b_Mo_actsNow 13 = .ok (.aload_n 0, 1) := by decide +kernel
theorem d_Mo_actsNow_14 : decode b_Mo_actsNow 14 = .ok (.getfield 44, 3) := by decide +kernel
theorem d_Mo_actsNow_17 : decode b_Mo_actsNow 17 = .ok (.iload_n 2, 1) := by decide +kernel
theorem d_Mo_actsNow_18 : decode b_Mo_actsNow 18 = .ok (.iaload, 1) := by decide +kernel
theorem d_Mo_actsNow_19 : decode b_Mo_actsNow 19 = .ok (.ifCond .le 25, 3) := by decide +kernel
theorem d_Mo_actsNow_22 : decode b_Mo_actsNow 22 = .ok (.aload_n 0, 1) := by decide +kernel
theorem d_Mo_actsNow_23 : decode b_Mo_actsNow 23 = .ok (.getfield 50, 3) := by decide +kernel
theorem d_Mo_actsNow_26 : decode b_Mo_actsNow 26 = .ok (.iconst 4, 1) := by decide +kernel
theorem d_Mo_actsNow_27 : decode b_Mo_actsNow 27 = .ok (.iload_n 2, 1) := by decide +kernel
theorem d_Mo_actsNow_28 : decode b_Mo_actsNow 28 = .ok (.imul, 1) := by decide +kernel
theorem d_Mo_actsNow_29 : decode b_Mo_actsNow 29 = .ok (.aload_n 0, 1) := by decide +kernel
theorem d_Mo_actsNow_30 : decode b_Mo_actsNow 30 = .ok (.getfield 47, 3) := by decide +kernel
theorem d_Mo_actsNow_33 : decode b_Mo_actsNow 33 = .ok (.iload_n 2, 1) := by decide +kernel
theorem d_Mo_actsNow_34 : decode b_Mo_actsNow 34 = .ok (.iaload, 1) := by decide +kernel
theorem d_Mo_actsNow_35 : decode b_Mo_actsNow 35 = .ok (.iadd, 1) := by decide +kernel
theorem d_Mo_actsNow_36 : decode b_Mo_actsNow 36 = .ok (.iaload, 1) := by decide +kernel
theorem d_Mo_actsNow_37 : decode b_Mo_actsNow 37 = .ok (.ifCond .le 7, 3) := by decide +kernel
theorem d_Mo_actsNow_40 : decode b_Mo_actsNow 40 = .ok (.iconst 1, 1) := by decide +kernel
theorem d_Mo_actsNow_41 : decode b_Mo_actsNow 41 = .ok (.goto 4, 3) := by decide +kernel
theorem d_Mo_actsNow_44 : decode b_Mo_actsNow 44 = .ok (.iconst 0, 1) := by decide +kernel
theorem d_Mo_actsNow_45 : decode b_Mo_actsNow 45 = .ok (.iadd, 1) := by decide +kernel
theorem d_Mo_actsNow_46 : decode b_Mo_actsNow 46 = .ok (.istore_n 1, 1) := by decide +kernel
theorem d_Mo_actsNow_47 : decode b_Mo_actsNow 47 = .ok (.iinc 2 1, 3) := by decide +kernel
theorem d_Mo_actsNow_50 : decode b_Mo_actsNow 50 = .ok (.goto (-46), 3) := by decide +kernel
theorem d_Mo_actsNow_53 : decode b_Mo_actsNow 53 = .ok (.iload_n 1, 1) := by decide +kernel
theorem d_Mo_actsNow_54 : decode b_Mo_actsNow 54 = .ok (.ireturn, 1) := by decide +kernel
theorem d_Mo_next_0 : decode b_Mo_next 0 = .ok (.aload_n 0, 1) := by decide +kernel
theorem d_Mo_next_1 : decode b_Mo_next 1 = .ok (.getfield 79, 3) := by decide +kernel
theorem d_Mo_next_4 : decode b_Mo_next 4 = .ok (.istore_n 1, 1) := by decide +kernel
theorem d_Mo_next_5 : decode b_Mo_next 5 = .ok (.iload_n 1, 1) := by decide +kernel
theorem d_Mo_next_6 : decode b_Mo_next 6 = .ok (.ifCond .le 33, 3) := by decide +kernel
theorem d_Mo_next_9 : decode b_Mo_next 9 = .ok (.aload_n 0, 1) := by decide +kernel
theorem d_Mo_next_10 : decode b_Mo_next 10 = .ok (.getfield 47, 3) := by decide +kernel
theorem d_Mo_next_13 : decode b_Mo_next 13 = .ok (.iload_n 1, 1) := by decide +kernel
theorem d_Mo_next_14 : decode b_Mo_next 14 = .ok (.iaload, 1) := by decide +kernel
theorem d_Mo_next_15 : decode b_Mo_next 15 = .ok (.iconst 1, 1) := by decide +kernel
theorem d_Mo_next_16 : decode b_Mo_next 16 = .ok (.iadd, 1) := by decide +kernel
theorem d_Mo_next_17 : decode b_Mo_next 17 = .ok (.aload_n 0, 1) := by decide +kernel
theorem d_Mo_next_18 : decode b_Mo_next 18 = .ok (.getfield 44, 3) := by decide +kernel
theorem d_Mo_next_21 : decode b_Mo_next 21 = .ok (.iload_n 1, 1) := by decide +kernel
theorem d_Mo_next_22 : decode b_Mo_next 22 = .ok (.iaload, 1) := by decide +kernel
theorem d_Mo_next_23 : decode b_Mo_next 23 = .ok (.if_icmp .lt 16, 3) := by decide +kernel
theorem d_Mo_next_26 : decode b_Mo_next 26 = .ok (.aload_n 0, 1) := by decide +kernel
theorem d_Mo_next_27 : decode b_Mo_next 27 = .ok (.getfield 47, 3) := by decide +kernel
theorem d_Mo_next_30 : decode b_Mo_next 30 = .ok (.iload_n 1, 1) := by decide +kernel
theorem d_Mo_next_31 : decode b_Mo_next 31 = .ok (.iconst 0, 1) := by decide +kernel
theorem d_Mo_next_32 : decode b_Mo_next 32 = .ok (.iastore, 1) := by decide +kernel
theorem d_Mo_next_33 : decode b_Mo_next 33 = .ok (.iinc 1 (-1), 3) := by decide +kernel
theorem d_Mo_next_36 : decode b_Mo_next 36 = .ok (.goto (-31), 3) := by decide +kernel
theorem d_Mo_next_39 : decode b_Mo_next 39 = .ok (.iload_n 1, 1) := by decide +kernel
theorem d_Mo_next_40 : decode b_Mo_next 40 = .ok (.ifCond .le 13, 3) := by decide +kernel
theorem d_Mo_next_43 : decode b_Mo_next 43 = .ok (.aload_n 0, 1) := by decide +kernel
theorem d_Mo_next_44 : decode b_Mo_next 44 = .ok (.getfield 47, 3) := by decide +kernel
theorem d_Mo_next_47 : decode b_Mo_next 47 = .ok (.iload_n 1, 1) := by decide +kernel
theorem d_Mo_next_48 : decode b_Mo_next 48 = .ok (.dup2, 1) := by decide +kernel
theorem d_Mo_next_49 : decode b_Mo_next 49 = .ok (.iaload, 1) := by decide +kernel
theorem d_Mo_next_50 : decode b_Mo_next 50 = .ok (.iconst 1, 1) := by decide +kernel
theorem d_Mo_next_51 : decode b_Mo_next 51 = .ok (.iadd, 1) := by decide +kernel
theorem d_Mo_next_52 : decode b_Mo_next 52 = .ok (.iastore, 1) := by decide +kernel
theorem d_Mo_next_53 : decode b_Mo_next 53 = .ok (.iload_n 1, 1) := by decide +kernel
theorem d_Mo_next_54 : decode b_Mo_next 54 = .ok (.ifCond .le 7, 3) := by decide +kernel
theorem d_Mo_next_57 : decode b_Mo_next 57 = .ok (.iconst 1, 1) := by decide +kernel
theorem d_Mo_next_58 : decode b_Mo_next 58 = .ok (.goto 4, 3) := by decide +kernel
theorem d_Mo_next_61 : decode b_Mo_next 61 = .ok (.iconst 0, 1) := by decide +kernel
theorem d_Mo_next_62 : decode b_Mo_next 62 = .ok (.ireturn, 1) := by decide +kernel
theorem d_Mo_solve_0 : decode b_Mo_solve 0 = .ok (.aload_n 0, 1) := by decide +kernel
theorem d_Mo_solve_1 : decode b_Mo_solve 1 = .ok (.iconst 0, 1) := by decide +kernel
theorem d_Mo_solve_2 : decode b_Mo_solve 2 = .ok (.putfield 72, 3) := by decide +kernel
theorem d_Mo_solve_5 : decode b_Mo_solve 5 = .ok (.iconst 1, 1) := by decide +kernel
theorem d_Mo_solve_6 : decode b_Mo_solve 6 = .ok (.istore_n 1, 1) := by decide +kernel
theorem d_Mo_solve_7 : decode b_Mo_solve 7 = .ok (.iload_n 1, 1) := by decide +kernel
theorem d_Mo_solve_8 : decode b_Mo_solve 8 = .ok (.aload_n 0, 1) := by decide +kernel
theorem d_Mo_solve_9 : decode b_Mo_solve 9 = .ok (.getfield 79, 3) := by decide +kernel
theorem d_Mo_solve_12 : decode b_Mo_solve 12 = .ok (.if_icmp .gt 16, 3) := by decide +kernel
theorem d_Mo_solve_15 : decode b_Mo_solve 15 = .ok (.aload_n 0, 1) := by decide +kernel
theorem d_Mo_solve_16 : decode b_Mo_solve 16 = .ok (.getfield 47, 3) := by decide +kernel
theorem d_Mo_solve_19 : decode b_Mo_solve 19 = .ok (.iload_n 1, 1) := by decide +kernel
theorem d_Mo_solve_20 : decode b_Mo_solve 20 = .ok (.iconst 0, 1) := by decide +kernel
theorem d_Mo_solve_21 : decode b_Mo_solve 21 = .ok (.iastore, 1) := by decide +kernel
theorem d_Mo_solve_22 : decode b_Mo_solve 22 = .ok (.iinc 1 1, 3) := by decide +kernel
theorem d_Mo_solve_25 : decode b_Mo_solve 25 = .ok (.goto (-18), 3) := by decide +kernel
theorem d_Mo_solve_28 : decode b_Mo_solve 28 = .ok (.lconst 0, 1) := by decide +kernel
theorem d_Mo_solve_29 : decode b_Mo_solve 29 = .ok (.lstore_n 1, 1) := by decide +kernel
theorem d_Mo_solve_30 : decode b_Mo_solve 30 = .ok (.iconst 0, 1) := by decide +kernel
theorem d_Mo_solve_31 : decode b_Mo_solve 31 = .ok (.istore_n 3, 1) := by decide +kernel
theorem d_Mo_solve_32 : decode b_Mo_solve 32 = .ok (.iconst 0, 1) := by decide +kernel
theorem d_Mo_solve_33 : decode b_Mo_solve 33 = .ok (.istore 4, 2) := by decide +kernel
theorem d_Mo_solve_35 : decode b_Mo_solve 35 = .ok (.iconst 1, 1) := by decide +kernel
theorem d_Mo_solve_36 : decode b_Mo_solve 36 = .ok (.istore 5, 2) := by decide +kernel
theorem d_Mo_solve_38 : decode b_Mo_solve 38 = .ok (.iload 5, 2) := by decide +kernel
theorem d_Mo_solve_40 : decode b_Mo_solve 40 = .ok (.ifCond .eq 94, 3) := by decide +kernel
theorem d_Mo_solve_43 : decode b_Mo_solve 43 = .ok (.aload_n 0, 1) := by decide +kernel
theorem d_Mo_solve_44 : decode b_Mo_solve 44 = .ok (.invokevirtual 129, 3) := by decide +kernel
theorem d_Mo_solve_47 : decode b_Mo_solve 47 = .ok (.aload_n 0, 1) := by decide +kernel
theorem d_Mo_solve_48 : decode b_Mo_solve 48 = .ok (.invokevirtual 132, 3) := by decide +kernel
theorem d_Mo_solve_51 : decode b_Mo_solve 51 = .ok (.lstore 6, 2) := by decide +kernel
theorem d_Mo_solve_53 : decode b_Mo_solve 53 = .ok (.aload_n 0, 1) := by decide +kernel
theorem d_Mo_solve_54 : decode b_Mo_solve 54 = .ok (.invokevirtual 136, 3) := by decide +kernel
theorem d_Mo_solve_57 : decode b_Mo_solve 57 = .ok (.istore 8, 2) := by decide +kernel
theorem d_Mo_solve_59 : decode b_Mo_solve 59 = .ok (.iload 4, 2) := by decide +kernel
theorem d_Mo_solve_61 : decode b_Mo_solve 61 = .ok (.ifCond .eq 23, 3) := by decide +kernel
theorem d_Mo_solve_64 : decode b_Mo_solve 64 = .ok (.lload 6, 2) := by decide +kernel
theorem d_Mo_solve_66 : decode b_Mo_solve 66 = .ok (.lload_n 1, 1) := by decide +kernel
theorem d_Mo_solve_67 : decode b_Mo_solve 67 = .ok (.lcmp, 1) := by decide +kernel
theorem d_Mo_solve_68 : decode b_Mo_solve 68 = .ok (.ifCond .lt 16, 3) := by decide +kernel
theorem d_Mo_solve_71 : decode b_Mo_solve 71 = .ok (.lload 6, 2) := by decide +kernel
theorem d_Mo_solve_73 : decode b_Mo_solve 73 = .ok (.lload_n 1, 1) := by decide +kernel
theorem d_Mo_solve_74 : decode b_Mo_solve 74 = .ok (.lcmp, 1) := by decide +kernel
theorem d_Mo_solve_75 : decode b_Mo_solve 75 = .ok (.ifCond .ne 50, 3) := by decide +kernel
theorem d_Mo_solve_78 : decode b_Mo_solve 78 = .ok (.iload 8, 2) := by decide +kernel
theorem d_Mo_solve_80 : decode b_Mo_solve 80 = .ok (.iload_n 3, 1) := by decide +kernel
theorem d_Mo_solve_81 : decode b_Mo_solve 81 = .ok (.if_icmp .ge 44, 3) := by decide +kernel
theorem d_Mo_solve_84 : decode b_Mo_solve 84 = .ok (.iconst 1, 1) := by decide +kernel
theorem d_Mo_solve_85 : decode b_Mo_solve 85 = .ok (.istore 4, 2) := by decide +kernel
theorem d_Mo_solve_87 : decode b_Mo_solve 87 = .ok (.lload 6, 2) := by decide +kernel
theorem d_Mo_solve_89 : decode b_Mo_solve 89 = .ok (.lstore_n 1, 1) := by decide +kernel
theorem d_Mo_solve_90 : decode b_Mo_solve 90 = .ok (.iload 8, 2) := by decide +kernel
theorem d_Mo_solve_92 : decode b_Mo_solve 92 = .ok (.istore_n 3, 1) := by decide +kernel
theorem d_Mo_solve_93 : decode b_Mo_solve 93 = .ok (.iconst 1, 1) := by decide +kernel
theorem d_Mo_solve_94 : decode b_Mo_solve 94 = .ok (.istore 9, 2) := by decide +kernel
theorem d_Mo_solve_96 : decode b_Mo_solve 96 = .ok (.iload 9, 2) := by decide +kernel
theorem d_Mo_solve_98 : decode b_Mo_solve 98 = .ok (.aload_n 0, 1) := by decide +kernel
theorem d_Mo_solve_99 : decode b_Mo_solve 99 = .ok (.getfield 79, 3) := by decide +kernel
theorem d_Mo_solve_102 : decode b_Mo_solve 102 = .ok (.if_icmp .gt 23, 3) := by decide +kernel
theorem d_Mo_solve_105 : decode b_Mo_solve 105 = .ok (.aload_n 0, 1) := by decide +kernel
theorem d_Mo_solve_106 : decode b_Mo_solve 106 = .ok (.getfield 66, 3) := by decide +kernel
theorem d_Mo_solve_109 : decode b_Mo_solve 109 = .ok (.iload 9, 2) := by decide +kernel
theorem d_Mo_solve_111 : decode b_Mo_solve 111 = .ok (.aload_n 0, 1) := by decide +kernel
theorem d_Mo_solve_112 : decode b_Mo_solve 112 = .ok (.getfield 47, 3) := by decide +kernel
theorem d_Mo_solve_115 : decode b_Mo_solve 115 = .ok (.iload 9, 2) := by decide +kernel
theorem d_Mo_solve_117 : decode b_Mo_solve 117 = .ok (.iaload, 1) := by decide +kernel
theorem d_Mo_solve_118 : decode b_Mo_solve 118 = .ok (.iastore, 1) := by decide +kernel
theorem d_Mo_solve_119 : decode b_Mo_solve 119 = .ok (.iinc 9 1, 3) := by decide +kernel
theorem d_Mo_solve_122 : decode b_Mo_solve 122 = .ok (.goto (-26), 3) := by decide +kernel
theorem d_Mo_solve_125 : decode b_Mo_solve 125 = .ok (.aload_n 0, 1) := by decide +kernel
theorem d_Mo_solve_126 : decode b_Mo_solve 126 = .ok (.invokevirtual 140, 3) := by decide +kernel
theorem d_Mo_solve_129 : decode b_Mo_solve 129 = .ok (.istore 5, 2) := by decide +kernel
theorem d_Mo_solve_131 : decode b_Mo_solve 131 = .ok (.goto (-93), 3) := by decide +kernel
theorem d_Mo_solve_134 : decode b_Mo_solve 134 = .ok (.iconst 1, 1) := by decide +kernel
theorem d_Mo_solve_135 : decode b_Mo_solve 135 = .ok (.istore 6, 2) := by decide +kernel
theorem d_Mo_solve_137 : decode b_Mo_solve 137 = .ok (.iload 6, 2) := by decide +kernel
theorem d_Mo_solve_139 : decode b_Mo_solve 139 = .ok (.aload_n 0, 1) := by decide +kernel
theorem d_Mo_solve_140 : decode b_Mo_solve 140 = .ok (.getfield 79, 3) := by decide +kernel
theorem d_Mo_solve_143 : decode b_Mo_solve 143 = .ok (.if_icmp .gt 23, 3) := by decide +kernel
theorem d_Mo_solve_146 : decode b_Mo_solve 146 = .ok (.aload_n 0, 1) := by decide +kernel
theorem d_Mo_solve_147 : decode b_Mo_solve 147 = .ok (.getfield 47, 3) := by decide +kernel
theorem d_Mo_solve_150 : decode b_Mo_solve 150 = .ok (.iload 6, 2) := by decide +kernel
theorem d_Mo_solve_152 : decode b_Mo_solve 152 = .ok (.aload_n 0, 1) := by decide +kernel
theorem d_Mo_solve_153 : decode b_Mo_solve 153 = .ok (.getfield 66, 3) := by decide +kernel
theorem d_Mo_solve_156 : decode b_Mo_solve 156 = .ok (.iload 6, 2) := by decide +kernel
theorem d_Mo_solve_158 : decode b_Mo_solve 158 = .ok (.iaload, 1) := by decide +kernel
theorem d_Mo_solve_159 : decode b_Mo_solve 159 = .ok (.iastore, 1) := by decide +kernel
theorem d_Mo_solve_160 : decode b_Mo_solve 160 = .ok (.iinc 6 1, 3) := by decide +kernel
theorem d_Mo_solve_163 : decode b_Mo_solve 163 = .ok (.goto (-26), 3) := by decide +kernel
theorem d_Mo_solve_166 : decode b_Mo_solve 166 = .ok (.lload_n 1, 1) := by decide +kernel
theorem d_Mo_solve_167 : decode b_Mo_solve 167 = .ok (.lreturn, 1) := by decide +kernel
theorem d_Mo_chosen_0 : decode b_Mo_chosen 0 = .ok (.aload_n 0, 1) := by decide +kernel
theorem d_Mo_chosen_1 : decode b_Mo_chosen 1 = .ok (.iconst 0, 1) := by decide +kernel
theorem d_Mo_chosen_2 : decode b_Mo_chosen 2 = .ok (.putfield 72, 3) := by decide +kernel
theorem d_Mo_chosen_5 : decode b_Mo_chosen 5 = .ok (.aload_n 0, 1) := by decide +kernel
theorem d_Mo_chosen_6 : decode b_Mo_chosen 6 = .ok (.iload_n 1, 1) := by decide +kernel
theorem d_Mo_chosen_7 : decode b_Mo_chosen 7 = .ok (.invokevirtual 98, 3) := by decide +kernel
theorem d_Mo_chosen_10 : decode b_Mo_chosen 10 = .ok (.ifCond .ne 8, 3) := by decide +kernel
theorem d_Mo_chosen_13 : decode b_Mo_chosen 13 = .ok (.bipush (-11), 2) := by decide +kernel
theorem d_Mo_chosen_15 : decode b_Mo_chosen 15 = .ok (.goto 22, 3) := by decide +kernel
theorem d_Mo_chosen_18 : decode b_Mo_chosen 18 = .ok (.aload_n 0, 1) := by decide +kernel
theorem d_Mo_chosen_19 : decode b_Mo_chosen 19 = .ok (.getfield 44, 3) := by decide +kernel
theorem d_Mo_chosen_22 : decode b_Mo_chosen 22 = .ok (.iload_n 1, 1) := by decide +kernel
theorem d_Mo_chosen_23 : decode b_Mo_chosen 23 = .ok (.iaload, 1) := by decide +kernel
theorem d_Mo_chosen_24 : decode b_Mo_chosen 24 = .ok (.ifCond .ne 7, 3) := by decide +kernel
theorem d_Mo_chosen_27 : decode b_Mo_chosen 27 = .ok (.iconst (-1), 1) := by decide +kernel
theorem d_Mo_chosen_28 : decode b_Mo_chosen 28 = .ok (.goto 9, 3) := by decide +kernel
theorem d_Mo_chosen_31 : decode b_Mo_chosen 31 = .ok (.aload_n 0, 1) := by decide +kernel
theorem d_Mo_chosen_32 : decode b_Mo_chosen 32 = .ok (.getfield 47, 3) := by decide +kernel
theorem d_Mo_chosen_35 : decode b_Mo_chosen 35 = .ok (.iload_n 1, 1) := by decide +kernel
theorem d_Mo_chosen_36 : decode b_Mo_chosen 36 = .ok (.iaload, 1) := by decide +kernel
theorem d_Mo_chosen_37 : decode b_Mo_chosen 37 = .ok (.ireturn, 1) := by decide +kernel
theorem d_Mo_arrival_0 : decode b_Mo_arrival 0 = .ok (.aload_n 0, 1) := by decide +kernel
theorem d_Mo_arrival_1 : decode b_Mo_arrival 1 = .ok (.iconst 0, 1) := by decide +kernel
theorem d_Mo_arrival_2 : decode b_Mo_arrival 2 = .ok (.putfield 72, 3) := by decide +kernel
theorem d_Mo_arrival_5 : decode b_Mo_arrival 5 = .ok (.aload_n 0, 1) := by decide +kernel
theorem d_Mo_arrival_6 : decode b_Mo_arrival 6 = .ok (.iload_n 1, 1) := by decide +kernel
theorem d_Mo_arrival_7 : decode b_Mo_arrival 7 = .ok (.invokevirtual 98, 3) := by decide +kernel
theorem d_Mo_arrival_10 : decode b_Mo_arrival 10 = .ok (.ifCond .ne 7, 3) := by decide +kernel
theorem d_Mo_arrival_13 : decode b_Mo_arrival 13 = .ok (.ldc2_w 144, 3) := by decide +kernel
theorem d_Mo_arrival_16 : decode b_Mo_arrival 16 = .ok (.lreturn, 1) := by decide +kernel
theorem d_Mo_arrival_17 : decode b_Mo_arrival 17 = .ok (.aload_n 0, 1) := by decide +kernel
theorem d_Mo_arrival_18 : decode b_Mo_arrival 18 = .ok (.invokevirtual 129, 3) := by decide +kernel
theorem d_Mo_arrival_21 : decode b_Mo_arrival 21 = .ok (.aload_n 0, 1) := by decide +kernel
theorem d_Mo_arrival_22 : decode b_Mo_arrival 22 = .ok (.getfield 59, 3) := by decide +kernel
theorem d_Mo_arrival_25 : decode b_Mo_arrival 25 = .ok (.iload_n 1, 1) := by decide +kernel
theorem d_Mo_arrival_26 : decode b_Mo_arrival 26 = .ok (.laload, 1) := by decide +kernel
theorem d_Mo_arrival_27 : decode b_Mo_arrival 27 = .ok (.lreturn, 1) := by decide +kernel
theorem d_Mo_departs_0 : decode b_Mo_departs 0 = .ok (.aload_n 0, 1) := by decide +kernel
theorem d_Mo_departs_1 : decode b_Mo_departs 1 = .ok (.iconst 0, 1) := by decide +kernel
theorem d_Mo_departs_2 : decode b_Mo_departs 2 = .ok (.putfield 72, 3) := by decide +kernel
theorem d_Mo_departs_5 : decode b_Mo_departs 5 = .ok (.aload_n 0, 1) := by decide +kernel
theorem d_Mo_departs_6 : decode b_Mo_departs 6 = .ok (.iload_n 1, 1) := by decide +kernel
theorem d_Mo_departs_7 : decode b_Mo_departs 7 = .ok (.invokevirtual 90, 3) := by decide +kernel
theorem d_Mo_departs_10 : decode b_Mo_departs 10 = .ok (.ifCond .ne 7, 3) := by decide +kernel
theorem d_Mo_departs_13 : decode b_Mo_departs 13 = .ok (.ldc2_w 144, 3) := by decide +kernel
theorem d_Mo_departs_16 : decode b_Mo_departs 16 = .ok (.lreturn, 1) := by decide +kernel
theorem d_Mo_departs_17 : decode b_Mo_departs 17 = .ok (.aload_n 0, 1) := by decide +kernel
theorem d_Mo_departs_18 : decode b_Mo_departs 18 = .ok (.invokevirtual 129, 3) := by decide +kernel
theorem d_Mo_departs_21 : decode b_Mo_departs 21 = .ok (.aload_n 0, 1) := by decide +kernel
theorem d_Mo_departs_22 : decode b_Mo_departs 22 = .ok (.getfield 29, 3) := by decide +kernel
theorem d_Mo_departs_25 : decode b_Mo_departs 25 = .ok (.iload_n 1, 1) := by decide +kernel
theorem d_Mo_departs_26 : decode b_Mo_departs 26 = .ok (.laload, 1) := by decide +kernel
theorem d_Mo_departs_27 : decode b_Mo_departs 27 = .ok (.lreturn, 1) := by decide +kernel
theorem d_Mo_none_0 : decode b_Mo_none 0 = .ok (.aload_n 0, 1) := by decide +kernel
theorem d_Mo_none_1 : decode b_Mo_none 1 = .ok (.iconst 0, 1) := by decide +kernel
theorem d_Mo_none_2 : decode b_Mo_none 2 = .ok (.putfield 72, 3) := by decide +kernel
theorem d_Mo_none_5 : decode b_Mo_none 5 = .ok (.aload_n 0, 1) := by decide +kernel
theorem d_Mo_none_6 : decode b_Mo_none 6 = .ok (.invokevirtual 129, 3) := by decide +kernel
theorem d_Mo_none_9 : decode b_Mo_none 9 = .ok (.iconst 0, 1) := by decide +kernel
theorem d_Mo_none_10 : decode b_Mo_none 10 = .ok (.istore_n 2, 1) := by decide +kernel
theorem d_Mo_none_11 : decode b_Mo_none 11 = .ok (.iconst 1, 1) := by decide +kernel
theorem d_Mo_none_12 : decode b_Mo_none 12 = .ok (.istore_n 3, 1) := by decide +kernel
theorem d_Mo_none_13 : decode b_Mo_none 13 = .ok (.iload_n 3, 1) := by decide +kernel
theorem d_Mo_none_14 : decode b_Mo_none 14 = .ok (.aload_n 0, 1) := by decide +kernel
theorem d_Mo_none_15 : decode b_Mo_none 15 = .ok (.getfield 79, 3) := by decide +kernel
theorem d_Mo_none_18 : decode b_Mo_none 18 = .ok (.if_icmp .gt 28, 3) := by decide +kernel
theorem d_Mo_none_21 : decode b_Mo_none 21 = .ok (.aload_n 0, 1) := by decide +kernel
theorem d_Mo_none_22 : decode b_Mo_none 22 = .ok (.getfield 62, 3) := by decide +kernel
theorem d_Mo_none_25 : decode b_Mo_none 25 = .ok (.iload_n 3, 1) := by decide +kernel
theorem d_Mo_none_26 : decode b_Mo_none 26 = .ok (.baload, 1) := by decide +kernel
theorem d_Mo_none_27 : decode b_Mo_none 27 = .ok (.ifCond .eq 13, 3) := by decide +kernel
theorem d_Mo_none_30 : decode b_Mo_none 30 = .ok (.iload_n 2, 1) := by decide +kernel
theorem d_Mo_none_31 : decode b_Mo_none 31 = .ok (.iload_n 1, 1) := by decide +kernel
theorem d_Mo_none_32 : decode b_Mo_none 32 = .ok (.if_icmp .ne 5, 3) := by decide +kernel
theorem d_Mo_none_35 : decode b_Mo_none 35 = .ok (.iload_n 3, 1) := by decide +kernel
theorem d_Mo_none_36 : decode b_Mo_none 36 = .ok (.ireturn, 1) := by decide +kernel
theorem d_Mo_none_37 : decode b_Mo_none 37 = .ok (.iinc 2 1, 3) := by decide +kernel
theorem d_Mo_none_40 : decode b_Mo_none 40 = .ok (.iinc 3 1, 3) := by decide +kernel
theorem d_Mo_none_43 : decode b_Mo_none 43 = .ok (.goto (-30), 3) := by decide +kernel
theorem d_Mo_none_46 : decode b_Mo_none 46 = .ok (.iconst (-1), 1) := by decide +kernel
theorem d_Mo_none_47 : decode b_Mo_none 47 = .ok (.ireturn, 1) := by decide +kernel
theorem d_Mo_acts_0 : decode b_Mo_acts 0 = .ok (.aload_n 0, 1) := by decide +kernel
theorem d_Mo_acts_1 : decode b_Mo_acts 1 = .ok (.iconst 0, 1) := by decide +kernel
theorem d_Mo_acts_2 : decode b_Mo_acts 2 = .ok (.putfield 72, 3) := by decide +kernel
theorem d_Mo_acts_5 : decode b_Mo_acts 5 = .ok (.aload_n 0, 1) := by decide +kernel
theorem d_Mo_acts_6 : decode b_Mo_acts 6 = .ok (.invokevirtual 136, 3) := by decide +kernel
theorem d_Mo_acts_9 : decode b_Mo_acts 9 = .ok (.ireturn, 1) := by decide +kernel
end
section
/-! THE METHODS AS FUNCTIONS over the memory: printed by wip/gen/run.py -/
def f_LR_init (a0 : Nat) (mem : mx_Mem) : Option (mx_Mem) :=
    Option.bind (some (mx_n mem (.inl (0, 12, .inr (.inr (.inr (.inr (fun _ => none)))))))) fun m1 =>
    Option.bind (mx_p m1 (some a0) 0 0 (va_rf (some mem.1))) fun m3 =>
    Option.bind (some (mx_n m3 (.inl (1, 6, .inr (.inr (.inr (.inr (fun _ => none)))))))) fun m5 =>
    Option.bind (mx_p m5 (some a0) 0 2 (va_rf (some m3.1))) fun m7 =>
    Option.bind (some (mx_n m7 (.inl (1, 6, .inr (.inr (.inr (.inr (fun _ => none)))))))) fun m9 =>
    Option.bind (mx_p m9 (some a0) 0 3 (va_rf (some m7.1))) fun m11 =>
    Option.bind (mx_p m11 (some a0) 0 1 (.int 0)) fun m13 =>
    Option.bind (mx_p m13 (some a0) 0 4 (.int 0)) fun m15 =>
    some m15
def f_Mo_init (a0 : Nat) (mem : mx_Mem) : Option (mx_Mem) :=
    Option.bind (some (mx_n mem (.inl (3, 13, .inl (fun _ => 0))))) fun m1 =>
    Option.bind (mx_p m1 (some a0) 4 2 (va_rf (some mem.1))) fun m3 =>
    Option.bind (some (mx_n m3 (.inl (3, 13, .inl (fun _ => 0))))) fun m5 =>
    Option.bind (mx_p m5 (some a0) 4 3 (va_rf (some m3.1))) fun m7 =>
    Option.bind (some (mx_n m7 (.inl (4, 13, .inr (.inl (fun _ => 0)))))) fun m9 =>
    Option.bind (mx_p m9 (some a0) 4 4 (va_rf (some m7.1))) fun m11 =>
    Option.bind (some (mx_n m11 (.inl (4, 13, .inr (.inl (fun _ => 0)))))) fun m13 =>
    Option.bind (mx_p m13 (some a0) 4 5 (va_rf (some m11.1))) fun m15 =>
    Option.bind (some (mx_n m15 (.inl (4, 13, .inr (.inl (fun _ => 0)))))) fun m17 =>
    Option.bind (mx_p m17 (some a0) 4 6 (va_rf (some m15.1))) fun m19 =>
    Option.bind (some (mx_n m19 (.inl (4, 13, .inr (.inl (fun _ => 0)))))) fun m21 =>
    Option.bind (mx_p m21 (some a0) 4 7 (va_rf (some m19.1))) fun m23 =>
    Option.bind (some (mx_n m23 (.inl (4, 13, .inr (.inl (fun _ => 0)))))) fun m25 =>
    Option.bind (mx_p m25 (some a0) 4 8 (va_rf (some m23.1))) fun m27 =>
    Option.bind (some (mx_n m27 (.inl (3, 7, .inl (fun _ => 0))))) fun m29 =>
    Option.bind (mx_p m29 (some a0) 4 10 (va_rf (some m27.1))) fun m31 =>
    Option.bind (some (mx_n m31 (.inl (3, 7, .inl (fun _ => 0))))) fun m33 =>
    Option.bind (mx_p m33 (some a0) 4 11 (va_rf (some m31.1))) fun m35 =>
    Option.bind (some (mx_n m35 (.inl (4, 7, .inr (.inl (fun _ => 0)))))) fun m37 =>
    Option.bind (mx_p m37 (some a0) 4 12 (va_rf (some m35.1))) fun m39 =>
    Option.bind (some (mx_n m39 (.inl (3, 7, .inl (fun _ => 0))))) fun m41 =>
    Option.bind (mx_p m41 (some a0) 4 13 (va_rf (some m39.1))) fun m43 =>
    Option.bind (some (mx_n m43 (.inl (3, 7, .inl (fun _ => 0))))) fun m45 =>
    Option.bind (mx_p m45 (some a0) 4 14 (va_rf (some m43.1))) fun m47 =>
    Option.bind (some (mx_n m47 (.inl (3, 7, .inl (fun _ => 0))))) fun m49 =>
    Option.bind (mx_p m49 (some a0) 4 15 (va_rf (some m47.1))) fun m51 =>
    Option.bind (some (mx_n m51 (.inl (3, 28, .inl (fun _ => 0))))) fun m53 =>
    Option.bind (mx_p m53 (some a0) 4 16 (va_rf (some m51.1))) fun m55 =>
    Option.bind (some (mx_n m55 (.inl (3, 28, .inl (fun _ => 0))))) fun m57 =>
    Option.bind (mx_p m57 (some a0) 4 17 (va_rf (some m55.1))) fun m59 =>
    Option.bind (some (mx_n m59 (.inl (4, 28, .inr (.inl (fun _ => 0)))))) fun m61 =>
    Option.bind (mx_p m61 (some a0) 4 18 (va_rf (some m59.1))) fun m63 =>
    Option.bind (some (mx_n m63 (.inl (4, 7, .inr (.inl (fun _ => 0)))))) fun m65 =>
    Option.bind (mx_p m65 (some a0) 4 19 (va_rf (some m63.1))) fun m67 =>
    Option.bind (some (mx_n m67 (.inl (5, 7, .inl (fun _ => 0))))) fun m69 =>
    Option.bind (mx_p m69 (some a0) 4 20 (va_rf (some m67.1))) fun m71 =>
    Option.bind (some (mx_n m71 (.inl (3, 7, .inl (fun _ => 0))))) fun m73 =>
    Option.bind (mx_p m73 (some a0) 4 21 (va_rf (some m71.1))) fun m75 =>
    Option.bind (some (mx_n m75 (.inl (4, 7, .inr (.inl (fun _ => 0)))))) fun m77 =>
    Option.bind (mx_p m77 (some a0) 4 22 (va_rf (some m75.1))) fun m79 =>
    some m79
def f_LR_isWithin (v0 : Int64) (v2 : Int64) (v4 : Int64) (mem : mx_Mem) : Option (Int32 × mx_Mem) :=
    if v0 < v2 then (some (0, mem))
    else (if v4 < v0 then (some (0, mem))
      else (some (1, mem)))
def f_LR_isPlace (v0 : Int32) (mem : mx_Mem) : Option (Int32 × mx_Mem) :=
    Option.bind (f_LR_isWithin v0.toInt64 0 9 mem) fun q1 =>
    Option.bind (mx_z q1.1) fun _ =>
    some (q1.1, q1.2)
def f_Li_init (a0 : Nat) (v1 : Int32) (v2 : Int32) (v3 : Int32) (v4 : Int64) (v6 : Int64) (mem : mx_Mem) : Option (mx_Mem) :=
    Option.bind (mx_p mem (some a0) 1 0 (.int v1)) fun m1 =>
    Option.bind (mx_p m1 (some a0) 1 1 (.int v2)) fun m3 =>
    Option.bind (mx_p m3 (some a0) 1 2 (.int v3)) fun m5 =>
    Option.bind (mx_p m5 (some a0) 1 3 (.long v4)) fun m7 =>
    Option.bind (mx_p m7 (some a0) 1 4 (.long v6)) fun m9 =>
    Option.bind (mx_p m9 (some a0) 1 5 (.long 0)) fun m11 =>
    Option.bind (mx_p m11 (some a0) 1 6 (.long 0)) fun m13 =>
    Option.bind (mx_p m13 (some a0) 1 7 (.long v4)) fun m15 =>
    some m15
def f_Li_forgetWaiting (a0 : Nat) (mem : mx_Mem) : Option (mx_Mem) :=
    Option.bind (mx_gl mem (some a0) 1 3) fun x1 =>
    Option.bind (mx_gl mem (some a0) 1 5) fun x3 =>
    Option.bind (mx_p mem (some a0) 1 7 (.long ((x1 + x3)))) fun m5 =>
    some m5
def f_Li_arrivesAt (a0 : Nat) (mem : mx_Mem) : Option (Int64 × mx_Mem) :=
    Option.bind (mx_gl mem (some a0) 1 4) fun x1 =>
    Option.bind (mx_gl mem (some a0) 1 7) fun x3 =>
    Option.bind (mx_gl mem (some a0) 1 3) fun x5 =>
    some ((x1 + (x3 - x5)), mem)
def f_Lo_pickedOption (a0 : Nat) (mem : mx_Mem) : Option (Option Nat × mx_Mem) :=
    Option.bind (mx_gi mem (some a0) 3 6) fun x1 =>
    if x1 < 0 then (some (none, mem))
    else (Option.bind (mx_gi mem (some a0) 3 6) fun x4 =>
      Option.bind (mx_gi mem (some a0) 3 5) fun x6 =>
      if x6 ≤ x4 then (some (none, mem))
      else (Option.bind (mx_gr mem (some a0) 3 4) fun x9 =>
        Option.bind (mx_gi mem (some a0) 3 6) fun x11 =>
        Option.bind (mx_ag mem x9 2 x11) fun x13 =>
        some (x13, mem)))
def f_Li_holdUntil (a0 : Nat) (v1 : Int64) (mem : mx_Mem) : Option (mx_Mem) :=
    Option.bind (mx_gl mem (some a0) 1 3) fun x1 =>
    Option.bind (mx_gl mem (some a0) 1 5) fun x3 =>
    Option.bind (mx_gl mem (some a0) 1 6) fun x5 =>
    if x5 < (v1 - (x1 + x3)) then (some mem)
    else (Option.bind (mx_gl mem (some a0) 1 7) fun x8 =>
      Option.bind (mx_p mem (some a0) 1 7 (.long ((if v1 < x8 then x8 else v1)))) fun m10 =>
      some m10)
def f_Lo_comeAndHold (a0 : Nat) (mem : mx_Mem) : Option (mx_Mem) :=
    Option.bind (mx_gr mem (some a0) 3 0) fun x1 =>
    Option.bind (mx_c mem x1 1) fun a6 =>
    Option.bind (f_Li_arrivesAt a6  mem) fun q3 =>
    Option.bind (mx_p q3.2 (some a0) 3 8 (.long q3.1)) fun m8 =>
    Option.bind (mx_c m8 (some a0) 3) fun a13 =>
    Option.bind (f_Lo_pickedOption a13  m8) fun q10 =>
    if q10.1 = none then (some q10.2)
    else (Option.bind (mx_gi q10.2 q10.1 2 0) fun x16 =>
      if x16 = 1 then (Option.bind (mx_gr q10.2 q10.1 2 1) fun x19 =>
        if x19 = none then (some q10.2)
        else (Option.bind (mx_gr q10.2 q10.1 2 1) fun x22 =>
          Option.bind (mx_gl q10.2 (some a0) 3 8) fun x24 =>
          Option.bind (mx_c q10.2 x22 1) fun a29 =>
          Option.bind (f_Li_holdUntil a29 (x24 + 10) q10.2) fun q26 =>
          some q26))
      else (some q10.2))
def f_Lo_isDirect (a0 : Nat) (mem : mx_Mem) : Option (Int32 × mx_Mem) :=
    Option.bind (mx_gr mem (some a0) 3 0) fun x1 =>
    Option.bind (mx_gi mem x1 1 2) fun x3 =>
    Option.bind (mx_gi mem (some a0) 3 1) fun x5 =>
    if x3 = x5 then (some (1, mem))
    else (some (0, mem))
def f_Lo_catches (a0 : Nat) (v1 : Option Nat) (mem : mx_Mem) : Option (Int32 × mx_Mem) :=
    Option.bind (mx_gl mem v1 1 7) fun x1 =>
    Option.bind (mx_gl mem (some a0) 3 8) fun x3 =>
    if x1 < (x3 + 10) then (some (0, mem))
    else (some (1, mem))
def fj_Lo_arrive_91 (v0 : Option Nat) (mem : mx_Mem) : Option (mx_Mem) :=
    Option.bind (mx_gl mem v0 3 8) fun x1 =>
    Option.bind (mx_p mem v0 3 9 (.long ((x1 + 1440)))) fun m3 =>
    Option.bind (mx_p m3 v0 3 11 (.int 1)) fun m5 =>
    some m5
def fj_Lo_arrive_55 (v0 : Option Nat) (v1 : Option Nat) (mem : mx_Mem) : Option (mx_Mem) :=
    if v1 = none then (fj_Lo_arrive_91 v0 mem)
    else (Option.bind (mx_gr mem v1 2 1) fun x2 =>
      if x2 = none then (fj_Lo_arrive_91 v0 mem)
      else (Option.bind (mx_gr mem v1 2 1) fun x5 =>
        Option.bind (mx_c mem v0 3) fun a10 =>
        Option.bind (f_Lo_catches a10 x5 mem) fun q7 =>
        if q7.1 = 0 then (fj_Lo_arrive_91 v0 q7.2)
        else (Option.bind (mx_gr q7.2 v1 2 1) fun x13 =>
          Option.bind (mx_c q7.2 x13 1) fun a18 =>
          Option.bind (f_Li_arrivesAt a18  q7.2) fun q15 =>
          Option.bind (mx_p q15.2 v0 3 9 (.long q15.1)) fun m20 =>
          some m20)))
def f_Lo_arrive (a0 : Nat) (mem : mx_Mem) : Option (mx_Mem) :=
    Option.bind (mx_c mem (some a0) 3) fun a4 =>
    Option.bind (f_Lo_pickedOption a4  mem) fun q1 =>
    Option.bind (mx_p q1.2 (some a0) 3 11 (.int 0)) fun m6 =>
    Option.bind (mx_c m6 (some a0) 3) fun a11 =>
    Option.bind (f_Lo_isDirect a11  m6) fun q8 =>
    if q8.1 = 0 then (if q1.1 = none then (fj_Lo_arrive_55 (some a0) q1.1 q8.2)
      else (Option.bind (mx_gi q8.2 q1.1 2 0) fun x15 =>
        if x15 = 2 then (Option.bind (mx_gl q8.2 (some a0) 3 8) fun x18 =>
          Option.bind (mx_p q8.2 (some a0) 3 9 (.long ((x18 + 60)))) fun m20 =>
          some m20)
        else (fj_Lo_arrive_55 (some a0) q1.1 q8.2)))
    else (Option.bind (mx_gl q8.2 (some a0) 3 8) fun x14 =>
      Option.bind (mx_p q8.2 (some a0) 3 9 (.long x14)) fun m16 =>
      some m16)
def fl_LR_settle_2 (k0 : Option Nat → mx_Mem → Option (mx_Mem)) : Nat → Option Nat → Int32 → mx_Mem → Option (mx_Mem)
  | 0, _, _, _ => none
  | n + 1, v0, v1, mem => Option.bind (mx_gi mem v0 0 1) fun x1 =>
    if x1 ≤ v1 then (k0 v0 mem)
    else (Option.bind (mx_gr mem v0 0 0) fun x4 =>
      Option.bind (mx_ag mem x4 0 v1) fun x6 =>
      Option.bind (mx_c mem x6 1) fun a11 =>
      Option.bind (f_Li_forgetWaiting a11  mem) fun q8 =>
      fl_LR_settle_2 k0 n v0 (v1 + 1) q8)
def fl_LR_settle_27 (k0 : Option Nat → mx_Mem → Option (mx_Mem)) : Nat → Option Nat → Int32 → mx_Mem → Option (mx_Mem)
  | 0, _, _, _ => none
  | n + 1, v0, v1, mem => Option.bind (mx_gi mem v0 0 4) fun x1 =>
    if x1 ≤ v1 then (k0 v0 mem)
    else (Option.bind (mx_gr mem v0 0 3) fun x4 =>
      Option.bind (mx_ag mem x4 1 v1) fun x6 =>
      Option.bind (mx_c mem x6 3) fun a11 =>
      Option.bind (f_Lo_comeAndHold a11  mem) fun q8 =>
      fl_LR_settle_27 k0 n v0 (v1 + 1) q8)
def fl_LR_settle_52  : Nat → Option Nat → Int32 → mx_Mem → Option (mx_Mem)
  | 0, _, _, _ => none
  | n + 1, v0, v1, mem => Option.bind (mx_gi mem v0 0 4) fun x1 =>
    if x1 ≤ v1 then (some mem)
    else (Option.bind (mx_gr mem v0 0 2) fun x4 =>
      Option.bind (mx_ag mem x4 1 v1) fun x6 =>
      Option.bind (mx_c mem x6 3) fun a11 =>
      Option.bind (f_Lo_arrive a11  mem) fun q8 =>
      fl_LR_settle_52 n v0 (v1 + 1) q8)
def f_LR_settle (a0 : Nat) (mem : mx_Mem) : Option (mx_Mem) :=
    fl_LR_settle_2 (fun (v0 : Option Nat) (m1 : mx_Mem) => fl_LR_settle_27 (fun (v0 : Option Nat) (m2 : mx_Mem) => fl_LR_settle_52  5000 v0 0 m2) 5000 v0 0 m1) 5000 (some a0) 0 mem
def f_LR_line (a0 : Nat) (v1 : Int32) (v2 : Int32) (v3 : Int64) (v5 : Int64) (mem : mx_Mem) : Option (Int32 × mx_Mem) :=
    Option.bind (f_LR_isPlace v1 mem) fun q1 =>
    if q1.1 = 0 then (some ((-12), q1.2))
    else (Option.bind (f_LR_isPlace v2 q1.2) fun q5 =>
      if q5.1 = 0 then (some ((-12), q5.2))
      else (if v1 = v2 then (some ((-12), q5.2))
        else (Option.bind (f_LR_isWithin v3 0 10000 q5.2) fun q10 =>
          if q10.1 = 0 then (some ((-12), q10.2))
          else (Option.bind (f_LR_isWithin v5 0 10000 q10.2) fun q14 =>
            if q14.1 = 0 then (some ((-12), q14.2))
            else (if v3 < v5 then (Option.bind (mx_gi q14.2 (some a0) 0 1) fun x19 =>
                Option.bind (mx_gr q14.2 (some a0) 0 0) fun x21 =>
                Option.bind (mx_al q14.2 x21 0) fun x23 =>
                if x19 < x23 then (Option.bind (mx_gr q14.2 (some a0) 0 0) fun x26 =>
                  Option.bind (mx_gi q14.2 (some a0) 0 1) fun x28 =>
                  Option.bind (some (mx_n q14.2 (.inr (1, [.int 0, .int 0, .int 0, .long 0, .long 0, .long 0, .long 0, .long 0])))) fun m30 =>
                  Option.bind (mx_gi m30 (some a0) 0 1) fun x32 =>
                  Option.bind (f_Li_init ((q14.2).1) (x32 + 1) v1 v2 v3 v5 m30) fun q34 =>
                  Option.bind (mx_cn q34 (some (q14.2).1) 1) fun _ =>
                  Option.bind (mx_as q34 x26 0 x28 (some (q14.2).1)) fun m39 =>
                  Option.bind (mx_gi m39 (some a0) 0 1) fun x40 =>
                  Option.bind (mx_p m39 (some a0) 0 1 (.int ((x40 + 1)))) fun m42 =>
                  Option.bind (mx_c m42 (some a0) 0) fun a47 =>
                  Option.bind (f_LR_settle a47  m42) fun q44 =>
                  Option.bind (mx_gi q44 (some a0) 0 1) fun x49 =>
                  some (x49, q44))
                else (some ((-14), q14.2)))
              else (some ((-12), q14.2)))))))
def f_Mo_in (v0 : Int64) (v2 : Int64) (v4 : Int64) (mem : mx_Mem) : Option (Int32 × mx_Mem) :=
    if v0 < v2 then (some (0, mem))
    else (if v4 < v0 then (some (0, mem))
      else (some (1, mem)))
def f_Mo_line (a0 : Nat) (v1 : Int32) (v2 : Int32) (v3 : Int64) (v5 : Int64) (mem : mx_Mem) : Option (Int32 × mx_Mem) :=
    Option.bind (mx_p mem (some a0) 4 0 (.int 0)) fun m1 =>
    Option.bind (f_Mo_in v1.toInt64 0 9 m1) fun q3 =>
    if q3.1 = 0 then (some ((-12), q3.2))
    else (Option.bind (f_Mo_in v2.toInt64 0 9 q3.2) fun q7 =>
      if q7.1 = 0 then (some ((-12), q7.2))
      else (if v1 = v2 then (some ((-12), q7.2))
        else (Option.bind (f_Mo_in v3 0 10000 q7.2) fun q12 =>
          if q12.1 = 0 then (some ((-12), q12.2))
          else (Option.bind (f_Mo_in v5 0 10000 q12.2) fun q16 =>
            if q16.1 = 0 then (some ((-12), q16.2))
            else (if v3 < v5 then (Option.bind (mx_gi q16.2 (some a0) 4 1) fun x21 =>
                if x21 = 12 then (some ((-14), q16.2))
                else (Option.bind (mx_gi q16.2 (some a0) 4 1) fun x24 =>
                  Option.bind (mx_p q16.2 (some a0) 4 1 (.int ((x24 + 1)))) fun m26 =>
                  Option.bind (mx_gr m26 (some a0) 4 2) fun x28 =>
                  Option.bind (mx_gi m26 (some a0) 4 1) fun x30 =>
                  Option.bind (mx_asi m26 x28 3 x30 v1) fun m33 =>
                  Option.bind (mx_gr m33 (some a0) 4 3) fun x34 =>
                  Option.bind (mx_gi m33 (some a0) 4 1) fun x36 =>
                  Option.bind (mx_asi m33 x34 3 x36 v2) fun m39 =>
                  Option.bind (mx_gr m39 (some a0) 4 4) fun x40 =>
                  Option.bind (mx_gi m39 (some a0) 4 1) fun x42 =>
                  Option.bind (mx_asl m39 x40 4 x42 v3) fun m45 =>
                  Option.bind (mx_gr m45 (some a0) 4 5) fun x46 =>
                  Option.bind (mx_gi m45 (some a0) 4 1) fun x48 =>
                  Option.bind (mx_asl m45 x46 4 x48 v5) fun m51 =>
                  Option.bind (mx_gi m51 (some a0) 4 1) fun x52 =>
                  some (x52, m51)))
              else (some ((-12), q16.2)))))))
def f_LR_findLine (a0 : Nat) (v1 : Int32) (mem : mx_Mem) : Option (Option Nat × mx_Mem) :=
    if v1 < 1 then (some (none, mem))
    else (Option.bind (mx_gi mem (some a0) 0 1) fun x2 =>
      if x2 < v1 then (some (none, mem))
      else (Option.bind (mx_gr mem (some a0) 0 0) fun x5 =>
        Option.bind (mx_ag mem x5 0 (v1 - 1)) fun x7 =>
        some (x7, mem)))
def f_Lo_init (a0 : Nat) (v1 : Option Nat) (v2 : Int32) (v3 : Int64) (v5 : Int32) (mem : mx_Mem) : Option (mx_Mem) :=
    Option.bind (some (mx_n mem (.inl (2, 4, .inr (.inr (.inr (.inr (fun _ => none)))))))) fun m1 =>
    Option.bind (mx_p m1 (some a0) 3 4 (va_rf (some mem.1))) fun m3 =>
    Option.bind (mx_p m3 (some a0) 3 0 (va_rf v1)) fun m5 =>
    Option.bind (mx_p m5 (some a0) 3 1 (.int v2)) fun m7 =>
    Option.bind (mx_p m7 (some a0) 3 2 (.long v3)) fun m9 =>
    Option.bind (mx_p m9 (some a0) 3 3 (.int v5)) fun m11 =>
    Option.bind (mx_p m11 (some a0) 3 5 (.int 0)) fun m13 =>
    Option.bind (mx_p m13 (some a0) 3 6 (.int (-1))) fun m15 =>
    Option.bind (mx_p m15 (some a0) 3 7 (.int (-1))) fun m17 =>
    some m17
def fl_LR_fileByLeaving_5  : Nat → Option Nat → Option Nat → Int32 → mx_Mem → Option (mx_Mem)
  | 0, _, _, _, _ => none
  | n + 1, v0, v1, v2, mem => if v2 ≤ 0 then (Option.bind (mx_gr mem v0 0 3) fun x2 =>
      Option.bind (mx_cn mem v1 3) fun _ =>
      Option.bind (mx_as mem x2 1 v2 v1) fun m6 =>
      some m6)
    else (Option.bind (mx_gr mem v0 0 3) fun x2 =>
      Option.bind (mx_ag mem x2 1 (v2 - 1)) fun x4 =>
      Option.bind (mx_gr mem x4 3 0) fun x6 =>
      Option.bind (mx_gl mem x6 1 3) fun x8 =>
      Option.bind (mx_gr mem v1 3 0) fun x10 =>
      Option.bind (mx_gl mem x10 1 3) fun x12 =>
      if x8 ≤ x12 then (Option.bind (mx_gr mem v0 0 3) fun x15 =>
        Option.bind (mx_cn mem v1 3) fun _ =>
        Option.bind (mx_as mem x15 1 v2 v1) fun m19 =>
        some m19)
      else (Option.bind (mx_gr mem v0 0 3) fun x15 =>
        Option.bind (mx_gr mem v0 0 3) fun x17 =>
        Option.bind (mx_ag mem x17 1 (v2 - 1)) fun x19 =>
        Option.bind (mx_cn mem x19 3) fun _ =>
        Option.bind (mx_as mem x15 1 v2 x19) fun m23 =>
        fl_LR_fileByLeaving_5 n v0 v1 (v2 + (-1)) m23))
def f_LR_fileByLeaving (a0 : Nat) (v1 : Option Nat) (mem : mx_Mem) : Option (mx_Mem) :=
    Option.bind (mx_gi mem (some a0) 0 4) fun x1 =>
    fl_LR_fileByLeaving_5  5000 (some a0) v1 x1 mem
def f_LR_load (a0 : Nat) (v1 : Int32) (v2 : Int32) (v3 : Int64) (v5 : Int32) (mem : mx_Mem) : Option (Int32 × mx_Mem) :=
    Option.bind (mx_c mem (some a0) 0) fun a4 =>
    Option.bind (f_LR_findLine a4 v1 mem) fun q1 =>
    if q1.1 = none then (some ((-11), q1.2))
    else (Option.bind (f_LR_isPlace v2 q1.2) fun q7 =>
      if q7.1 = 0 then (some ((-12), q7.2))
      else (Option.bind (f_LR_isWithin v3 0 20000 q7.2) fun q11 =>
        if q11.1 = 0 then (some ((-12), q11.2))
        else (Option.bind (f_LR_isWithin v5.toInt64 1 100 q11.2) fun q15 =>
          if q15.1 = 0 then (some ((-12), q15.2))
          else (Option.bind (mx_gi q15.2 (some a0) 0 4) fun x19 =>
            Option.bind (mx_gr q15.2 (some a0) 0 2) fun x21 =>
            Option.bind (mx_al q15.2 x21 1) fun x23 =>
            if x23 ≤ x19 then (some ((-14), q15.2))
            else (Option.bind (mx_gi q15.2 (some a0) 0 4) fun x26 =>
              Option.bind (mx_gr q15.2 (some a0) 0 3) fun x28 =>
              Option.bind (mx_al q15.2 x28 1) fun x30 =>
              if x26 < x30 then (Option.bind (some (mx_n q15.2 (.inr (3, [.null, .int 0, .long 0, .int 0, .null, .int 0, .int 0, .int 0, .long 0, .long 0, .long 0, .int 0])))) fun m33 =>
                Option.bind (f_Lo_init ((q15.2).1) q1.1 v2 v3 v5 m33) fun q35 =>
                Option.bind (mx_gr q35 (some a0) 0 2) fun x38 =>
                Option.bind (mx_gi q35 (some a0) 0 4) fun x40 =>
                Option.bind (mx_cn q35 (some (q15.2).1) 3) fun _ =>
                Option.bind (mx_as q35 x38 1 x40 (some (q15.2).1)) fun m44 =>
                Option.bind (mx_c m44 (some a0) 0) fun a48 =>
                Option.bind (f_LR_fileByLeaving a48 (some (q15.2).1) m44) fun q45 =>
                Option.bind (mx_gi q45 (some a0) 0 4) fun x50 =>
                Option.bind (mx_p q45 (some a0) 0 4 (.int ((x50 + 1)))) fun m52 =>
                Option.bind (mx_c m52 (some a0) 0) fun a57 =>
                Option.bind (f_LR_settle a57  m52) fun q54 =>
                Option.bind (mx_gi q54 (some a0) 0 4) fun x59 =>
                some (x59, q54))
              else (some ((-14), q15.2)))))))
def f_Mo_isLine (a0 : Nat) (v1 : Int32) (mem : mx_Mem) : Option (Int32 × mx_Mem) :=
    if v1 < 1 then (some (0, mem))
    else (Option.bind (mx_gi mem (some a0) 4 1) fun x2 =>
      if x2 < v1 then (some (0, mem))
      else (some (1, mem)))
def f_Mo_load (a0 : Nat) (v1 : Int32) (v2 : Int32) (v3 : Int64) (v5 : Int32) (mem : mx_Mem) : Option (Int32 × mx_Mem) :=
    Option.bind (mx_p mem (some a0) 4 0 (.int 0)) fun m1 =>
    Option.bind (mx_c m1 (some a0) 4) fun a6 =>
    Option.bind (f_Mo_isLine a6 v1 m1) fun q3 =>
    if q3.1 = 0 then (some ((-11), q3.2))
    else (Option.bind (f_Mo_in v2.toInt64 0 9 q3.2) fun q9 =>
      if q9.1 = 0 then (some ((-12), q9.2))
      else (Option.bind (f_Mo_in v3 0 20000 q9.2) fun q13 =>
        if q13.1 = 0 then (some ((-12), q13.2))
        else (Option.bind (f_Mo_in v5.toInt64 1 100 q13.2) fun q17 =>
          if q17.1 = 0 then (some ((-12), q17.2))
          else (Option.bind (mx_gi q17.2 (some a0) 4 9) fun x21 =>
            if x21 = 6 then (some ((-14), q17.2))
            else (Option.bind (mx_gi q17.2 (some a0) 4 9) fun x24 =>
              Option.bind (mx_p q17.2 (some a0) 4 9 (.int ((x24 + 1)))) fun m26 =>
              Option.bind (mx_gr m26 (some a0) 4 10) fun x28 =>
              Option.bind (mx_gi m26 (some a0) 4 9) fun x30 =>
              Option.bind (mx_asi m26 x28 3 x30 v1) fun m33 =>
              Option.bind (mx_gr m33 (some a0) 4 11) fun x34 =>
              Option.bind (mx_gi m33 (some a0) 4 9) fun x36 =>
              Option.bind (mx_asi m33 x34 3 x36 v2) fun m39 =>
              Option.bind (mx_gr m39 (some a0) 4 12) fun x40 =>
              Option.bind (mx_gi m39 (some a0) 4 9) fun x42 =>
              Option.bind (mx_asl m39 x40 4 x42 v3) fun m45 =>
              Option.bind (mx_gr m45 (some a0) 4 13) fun x46 =>
              Option.bind (mx_gi m45 (some a0) 4 9) fun x48 =>
              Option.bind (mx_asi m45 x46 3 x48 v5) fun m51 =>
              Option.bind (mx_gi m51 (some a0) 4 9) fun x52 =>
              some (x52, m51))))))
def f_LR_findLoad (a0 : Nat) (v1 : Int32) (mem : mx_Mem) : Option (Option Nat × mx_Mem) :=
    if v1 < 1 then (some (none, mem))
    else (Option.bind (mx_gi mem (some a0) 0 4) fun x2 =>
      if x2 < v1 then (some (none, mem))
      else (Option.bind (mx_gr mem (some a0) 0 2) fun x5 =>
        Option.bind (mx_ag mem x5 1 (v1 - 1)) fun x7 =>
        some (x7, mem)))
def f_Lo_canGoOnBy (a0 : Nat) (v1 : Option Nat) (mem : mx_Mem) : Option (Int32 × mx_Mem) :=
    Option.bind (mx_gi mem v1 1 1) fun x1 =>
    Option.bind (mx_gr mem (some a0) 3 0) fun x3 =>
    Option.bind (mx_gi mem x3 1 2) fun x5 =>
    if x1 = x5 then (Option.bind (mx_gi mem v1 1 2) fun x8 =>
      Option.bind (mx_gi mem (some a0) 3 1) fun x10 =>
      if x8 = x10 then (Option.bind (mx_gl mem v1 1 3) fun x13 =>
        Option.bind (mx_gr mem (some a0) 3 0) fun x15 =>
        Option.bind (mx_gl mem x15 1 3) fun x17 =>
        if x13 ≤ x17 then (some (0, mem))
        else (some (1, mem)))
      else (some (0, mem)))
    else (some (0, mem))
def f_Lo_hasRoom (a0 : Nat) (mem : mx_Mem) : Option (Int32 × mx_Mem) :=
    Option.bind (mx_gi mem (some a0) 3 5) fun x1 =>
    Option.bind (mx_gr mem (some a0) 3 4) fun x3 =>
    Option.bind (mx_al mem x3 2) fun x5 =>
    if x5 ≤ x1 then (some (0, mem))
    else (some (1, mem))
def f_Op_init (a0 : Nat) (v1 : Int32) (v2 : Option Nat) (v3 : Int64) (mem : mx_Mem) : Option (mx_Mem) :=
    Option.bind (mx_p mem (some a0) 2 0 (.int v1)) fun m1 =>
    Option.bind (mx_p m1 (some a0) 2 1 (va_rf v2)) fun m3 =>
    Option.bind (mx_p m3 (some a0) 2 2 (.long v3)) fun m5 =>
    some m5
def f_Lo_addOption (a0 : Nat) (v1 : Option Nat) (mem : mx_Mem) : Option (Int32 × mx_Mem) :=
    Option.bind (mx_c mem (some a0) 3) fun a4 =>
    Option.bind (f_Lo_hasRoom a4  mem) fun q1 =>
    if q1.1 = 0 then (some ((-1), q1.2))
    else (Option.bind (mx_gr q1.2 (some a0) 3 4) fun x7 =>
      Option.bind (mx_gi q1.2 (some a0) 3 5) fun x9 =>
      Option.bind (mx_cn q1.2 v1 2) fun _ =>
      Option.bind (mx_as q1.2 x7 2 x9 v1) fun m13 =>
      Option.bind (mx_gi m13 (some a0) 3 5) fun x14 =>
      Option.bind (mx_p m13 (some a0) 3 5 (.int ((x14 + 1)))) fun m16 =>
      Option.bind (mx_gi m16 (some a0) 3 6) fun x18 =>
      if 0 ≤ x18 then (Option.bind (mx_gi m16 (some a0) 3 5) fun x21 =>
        some ((x21 - 1), m16))
      else (Option.bind (mx_p m16 (some a0) 3 6 (.int 0)) fun m21 =>
        Option.bind (mx_gi m21 (some a0) 3 5) fun x23 =>
        some ((x23 - 1), m21)))
def fj_LR_option_94 (v0 : Option Nat) (v2 : Int32) (v4 : Int64) (v6 : Option Nat) (v7 : Option Nat) (mem : mx_Mem) : Option (Int32 × mx_Mem) :=
    Option.bind (mx_c mem v6 3) fun a4 =>
    Option.bind (f_Lo_hasRoom a4  mem) fun q1 =>
    if q1.1 = 0 then (some ((-14), q1.2))
    else (Option.bind (some (mx_n q1.2 (.inr (2, [.int 0, .null, .long 0])))) fun m7 =>
      Option.bind (f_Op_init ((q1.2).1) v2 v7 v4 m7) fun q9 =>
      Option.bind (mx_c q9 v6 3) fun a15 =>
      Option.bind (f_Lo_addOption a15 (some (q1.2).1) q9) fun q12 =>
      Option.bind (mx_c q12.2 v0 0) fun a20 =>
      Option.bind (f_LR_settle a20  q12.2) fun q17 =>
      some (q12.1, q17))
def fj_LR_option_41 (v0 : Option Nat) (v2 : Int32) (v4 : Int64) (v6 : Option Nat) (v7 : Option Nat) (mem : mx_Mem) : Option (Int32 × mx_Mem) :=
    Option.bind (f_LR_isWithin v2.toInt64 0 2 mem) fun q1 =>
    if q1.1 = 0 then (some ((-12), q1.2))
    else (Option.bind (f_LR_isWithin v4 0 10000 q1.2) fun q5 =>
      if q5.1 = 0 then (some ((-12), q5.2))
      else (Option.bind (mx_c q5.2 v6 3) fun a12 =>
        Option.bind (f_Lo_isDirect a12  q5.2) fun q9 =>
        if q9.1 = 0 then (if v7 = none then (fj_LR_option_94 v0 v2 v4 v6 v7 q9.2)
          else (Option.bind (mx_c q9.2 v6 3) fun a19 =>
            Option.bind (f_Lo_canGoOnBy a19 v7 q9.2) fun q16 =>
            if q16.1 = 0 then (some ((-13), q16.2))
            else (fj_LR_option_94 v0 v2 v4 v6 v7 q16.2)))
        else (some ((-13), q9.2))))
def f_LR_option (a0 : Nat) (v1 : Int32) (v2 : Int32) (v3 : Int32) (v4 : Int64) (mem : mx_Mem) : Option (Int32 × mx_Mem) :=
    Option.bind (mx_c mem (some a0) 0) fun a4 =>
    Option.bind (f_LR_findLoad a4 v1 mem) fun q1 =>
    if v2 = 2 then (if q1.1 = none then (some ((-11), q1.2))
      else (if v2 = 2 then (fj_LR_option_41 (some a0) v2 v4 q1.1 none q1.2)
        else (if (none : Option Nat) = none then (some ((-11), q1.2))
          else (fj_LR_option_41 (some a0) v2 v4 q1.1 none q1.2))))
    else (Option.bind (mx_c q1.2 (some a0) 0) fun a10 =>
      Option.bind (f_LR_findLine a10 v3 q1.2) fun q7 =>
      if q1.1 = none then (some ((-11), q7.2))
      else (if v2 = 2 then (fj_LR_option_41 (some a0) v2 v4 q1.1 q7.1 q7.2)
        else (if q7.1 = none then (some ((-11), q7.2))
          else (fj_LR_option_41 (some a0) v2 v4 q1.1 q7.1 q7.2))))
def f_Mo_isLoad (a0 : Nat) (v1 : Int32) (mem : mx_Mem) : Option (Int32 × mx_Mem) :=
    if v1 < 1 then (some (0, mem))
    else (Option.bind (mx_gi mem (some a0) 4 9) fun x2 =>
      if x2 < v1 then (some (0, mem))
      else (some (1, mem)))
def f_Mo_isDirect (a0 : Nat) (v1 : Int32) (mem : mx_Mem) : Option (Int32 × mx_Mem) :=
    Option.bind (mx_gr mem (some a0) 4 3) fun x1 =>
    Option.bind (mx_gr mem (some a0) 4 10) fun x3 =>
    Option.bind (mx_agi mem x3 3 v1) fun x5 =>
    Option.bind (mx_agi mem x1 3 x5) fun x7 =>
    Option.bind (mx_gr mem (some a0) 4 11) fun x9 =>
    Option.bind (mx_agi mem x9 3 v1) fun x11 =>
    if x7 = x11 then (some (1, mem))
    else (some (0, mem))
def fj_Mo_option_128 (v0 : Option Nat) (v1 : Int32) (v2 : Int32) (v3 : Int32) (v4 : Int64) (mem : mx_Mem) : Option (Int32 × mx_Mem) :=
    Option.bind (mx_gr mem v0 4 14) fun x1 =>
    Option.bind (mx_agi mem x1 3 v1) fun x3 =>
    if x3 = 4 then (some ((-14), mem))
    else (Option.bind (mx_gr mem v0 4 14) fun x6 =>
      Option.bind (mx_agi mem x6 3 v1) fun x8 =>
      Option.bind (mx_gr mem v0 4 16) fun x10 =>
      Option.bind (mx_asi mem x10 3 ((4 * v1) + x8) v2) fun m13 =>
      Option.bind (mx_gr m13 v0 4 17) fun x14 =>
      if v2 = 2 then (Option.bind (mx_asi m13 x14 3 ((4 * v1) + x8) 0) fun m18 =>
        Option.bind (mx_gr m18 v0 4 18) fun x19 =>
        Option.bind (mx_asl m18 x19 4 ((4 * v1) + x8) v4) fun m22 =>
        Option.bind (mx_gr m22 v0 4 14) fun x23 =>
        Option.bind (mx_agi m22 x23 3 v1) fun x25 =>
        Option.bind (mx_asi m22 x23 3 v1 (x25 + 1)) fun m28 =>
        Option.bind (mx_gr m28 v0 4 14) fun x29 =>
        Option.bind (mx_agi m28 x29 3 v1) fun x31 =>
        some ((x31 - 1), m28))
      else (Option.bind (mx_asi m13 x14 3 ((4 * v1) + x8) v3) fun m18 =>
        Option.bind (mx_gr m18 v0 4 18) fun x19 =>
        Option.bind (mx_asl m18 x19 4 ((4 * v1) + x8) v4) fun m22 =>
        Option.bind (mx_gr m22 v0 4 14) fun x23 =>
        Option.bind (mx_agi m22 x23 3 v1) fun x25 =>
        Option.bind (mx_asi m22 x23 3 v1 (x25 + 1)) fun m28 =>
        Option.bind (mx_gr m28 v0 4 14) fun x29 =>
        Option.bind (mx_agi m28 x29 3 v1) fun x31 =>
        some ((x31 - 1), m28)))
def fj_Mo_option_29 (v0 : Option Nat) (v1 : Int32) (v2 : Int32) (v3 : Int32) (v4 : Int64) (mem : mx_Mem) : Option (Int32 × mx_Mem) :=
    Option.bind (f_Mo_in v2.toInt64 0 2 mem) fun q1 =>
    if q1.1 = 0 then (some ((-12), q1.2))
    else (Option.bind (f_Mo_in v4 0 10000 q1.2) fun q5 =>
      if q5.1 = 0 then (some ((-12), q5.2))
      else (Option.bind (mx_gr q5.2 v0 4 10) fun x9 =>
        Option.bind (mx_agi q5.2 x9 3 v1) fun x11 =>
        Option.bind (mx_c q5.2 v0 4) fun a16 =>
        Option.bind (f_Mo_isDirect a16 v1 q5.2) fun q13 =>
        if q13.1 = 0 then (if v2 = 2 then (fj_Mo_option_128 v0 v1 v2 v3 v4 q13.2)
          else (Option.bind (mx_gr q13.2 v0 4 2) fun x20 =>
            Option.bind (mx_agi q13.2 x20 3 v3) fun x22 =>
            Option.bind (mx_gr q13.2 v0 4 3) fun x24 =>
            Option.bind (mx_agi q13.2 x24 3 x11) fun x26 =>
            if x22 = x26 then (Option.bind (mx_gr q13.2 v0 4 3) fun x29 =>
              Option.bind (mx_agi q13.2 x29 3 v3) fun x31 =>
              Option.bind (mx_gr q13.2 v0 4 11) fun x33 =>
              Option.bind (mx_agi q13.2 x33 3 v1) fun x35 =>
              if x31 = x35 then (Option.bind (mx_gr q13.2 v0 4 4) fun x38 =>
                Option.bind (mx_agl q13.2 x38 4 v3) fun x40 =>
                Option.bind (mx_gr q13.2 v0 4 4) fun x42 =>
                Option.bind (mx_agl q13.2 x42 4 x11) fun x44 =>
                if x44 < x40 then (fj_Mo_option_128 v0 v1 v2 v3 v4 q13.2)
                else (some ((-13), q13.2)))
              else (some ((-13), q13.2)))
            else (some ((-13), q13.2))))
        else (some ((-13), q13.2))))
def f_Mo_option (a0 : Nat) (v1 : Int32) (v2 : Int32) (v3 : Int32) (v4 : Int64) (mem : mx_Mem) : Option (Int32 × mx_Mem) :=
    Option.bind (mx_p mem (some a0) 4 0 (.int 0)) fun m1 =>
    Option.bind (mx_c m1 (some a0) 4) fun a6 =>
    Option.bind (f_Mo_isLoad a6 v1 m1) fun q3 =>
    if q3.1 = 0 then (some ((-11), q3.2))
    else (if v2 = 2 then (fj_Mo_option_29 (some a0) v1 v2 v3 v4 q3.2)
      else (Option.bind (mx_c q3.2 (some a0) 4) fun a13 =>
        Option.bind (f_Mo_isLine a13 v3 q3.2) fun q10 =>
        if q10.1 = 0 then (some ((-11), q10.2))
        else (fj_Mo_option_29 (some a0) v1 v2 v3 v4 q10.2)))
def f_LR_waits (a0 : Nat) (v1 : Int32) (v2 : Int64) (mem : mx_Mem) : Option (Int32 × mx_Mem) :=
    Option.bind (mx_c mem (some a0) 0) fun a4 =>
    Option.bind (f_LR_findLine a4 v1 mem) fun q1 =>
    if q1.1 = none then (some ((-11), q1.2))
    else (Option.bind (f_LR_isWithin v2 0 600 q1.2) fun q7 =>
      if q7.1 = 0 then (some ((-12), q7.2))
      else (Option.bind (mx_gl q7.2 q1.1 1 6) fun x11 =>
        Option.bind (mx_p q7.2 q1.1 1 6 (.long v2)) fun m13 =>
        Option.bind (mx_c m13 (some a0) 0) fun a18 =>
        Option.bind (f_LR_settle a18  m13) fun q15 =>
        some (x11.toInt32, q15)))
def f_Mo_waits (a0 : Nat) (v1 : Int32) (v2 : Int64) (mem : mx_Mem) : Option (Int32 × mx_Mem) :=
    Option.bind (mx_p mem (some a0) 4 0 (.int 0)) fun m1 =>
    Option.bind (mx_c m1 (some a0) 4) fun a6 =>
    Option.bind (f_Mo_isLine a6 v1 m1) fun q3 =>
    if q3.1 = 0 then (some ((-11), q3.2))
    else (Option.bind (f_Mo_in v2 0 600 q3.2) fun q9 =>
      if q9.1 = 0 then (some ((-12), q9.2))
      else (Option.bind (mx_gr q9.2 (some a0) 4 7) fun x13 =>
        Option.bind (mx_agl q9.2 x13 4 v1) fun x15 =>
        Option.bind (mx_gr q9.2 (some a0) 4 7) fun x17 =>
        Option.bind (mx_asl q9.2 x17 4 v1 v2) fun m20 =>
        some (x15.toInt32, m20)))
def f_Lo_minutesBehind (a0 : Nat) (mem : mx_Mem) : Option (Int64 × mx_Mem) :=
    Option.bind (mx_gl mem (some a0) 3 9) fun x1 =>
    Option.bind (mx_gl mem (some a0) 3 2) fun x3 =>
    some ((if (x1 - x3) < 0 then 0 else (x1 - x3)), mem)
def fl_LR_countFailing_4  : Nat → Option Nat → Int32 → Int32 → mx_Mem → Option (Int32 × mx_Mem)
  | 0, _, _, _, _ => none
  | n + 1, v0, v1, v2, mem => Option.bind (mx_gi mem v0 0 4) fun x1 =>
    if x1 ≤ v2 then (some (v1, mem))
    else (Option.bind (mx_gr mem v0 0 2) fun x4 =>
      Option.bind (mx_ag mem x4 1 v2) fun x6 =>
      Option.bind (mx_gi mem x6 3 11) fun x8 =>
      if x8 = 0 then (Option.bind (mx_gr mem v0 0 2) fun x11 =>
        Option.bind (mx_ag mem x11 1 v2) fun x13 =>
        Option.bind (mx_c mem x13 3) fun a18 =>
        Option.bind (f_Lo_minutesBehind a18  mem) fun q15 =>
        if q15.1 ≤ 0 then (fl_LR_countFailing_4 n v0 v1 (v2 + 1) q15.2)
        else (fl_LR_countFailing_4 n v0 (v1 + 1) (v2 + 1) q15.2))
      else (fl_LR_countFailing_4 n v0 (v1 + 1) (v2 + 1) mem))
def f_LR_countFailing (a0 : Nat) (mem : mx_Mem) : Option (Int32 × mx_Mem) :=
    fl_LR_countFailing_4  5000 (some a0) 0 0 mem
def f_LR_late (a0 : Nat) (v1 : Int32) (v2 : Int64) (mem : mx_Mem) : Option (Int32 × mx_Mem) :=
    Option.bind (mx_c mem (some a0) 0) fun a4 =>
    Option.bind (f_LR_findLine a4 v1 mem) fun q1 =>
    if q1.1 = none then (some ((-11), q1.2))
    else (Option.bind (f_LR_isWithin v2 0 2000 q1.2) fun q7 =>
      if q7.1 = 0 then (some ((-12), q7.2))
      else (Option.bind (mx_p q7.2 q1.1 1 5 (.long v2)) fun m11 =>
        Option.bind (mx_c m11 (some a0) 0) fun a16 =>
        Option.bind (f_LR_settle a16  m11) fun q13 =>
        Option.bind (mx_c q13 (some a0) 0) fun a21 =>
        Option.bind (f_LR_countFailing a21  q13) fun q18 =>
        some (q18.1, q18.2)))
def f_Mo_there (a0 : Nat) (v1 : Int32) (mem : mx_Mem) : Option (Int64 × mx_Mem) :=
    Option.bind (mx_gr mem (some a0) 4 5) fun x1 =>
    Option.bind (mx_agl mem x1 4 v1) fun x3 =>
    Option.bind (mx_gr mem (some a0) 4 8) fun x5 =>
    Option.bind (mx_agl mem x5 4 v1) fun x7 =>
    Option.bind (mx_gr mem (some a0) 4 4) fun x9 =>
    Option.bind (mx_agl mem x9 4 v1) fun x11 =>
    some (((x3 + x7) - x11), mem)
def fl_Mo_depart_24  : Nat → Option Nat → Int32 → Int64 → Int32 → mx_Mem → Option (mx_Mem)
  | 0, _, _, _, _, _ => none
  | n + 1, v0, v1, v2, v4, mem => Option.bind (mx_gi mem v0 4 9) fun x1 =>
    if x1 < v4 then (some mem)
    else (Option.bind (mx_gr mem v0 4 15) fun x4 =>
      Option.bind (mx_agi mem x4 3 v4) fun x6 =>
      Option.bind (mx_gr mem v0 4 14) fun x8 =>
      Option.bind (mx_agi mem x8 3 v4) fun x10 =>
      if x10 ≤ 0 then (Option.bind (mx_gr mem v0 4 8) fun x14 =>
        Option.bind (mx_gr mem v0 4 8) fun x17 =>
        Option.bind (mx_agl mem x17 4 v1) fun x19 =>
        Option.bind (mx_asl mem x14 4 v1 x19) fun m22 =>
        fl_Mo_depart_24 n v0 v1 v2 (v4 + 1) m22)
      else (Option.bind (mx_gr mem v0 4 16) fun x13 =>
        Option.bind (mx_agi mem x13 3 ((4 * v4) + x6)) fun x15 =>
        if x15 = 1 then (Option.bind (mx_gr mem v0 4 17) fun x18 =>
          Option.bind (mx_agi mem x18 3 ((4 * v4) + x6)) fun x20 =>
          if x20 = v1 then (Option.bind (mx_gr mem v0 4 10) fun x24 =>
            Option.bind (mx_agi mem x24 3 v4) fun x26 =>
            Option.bind (mx_c mem v0 4) fun a31 =>
            Option.bind (f_Mo_there a31 x26 mem) fun q28 =>
            Option.bind (mx_gr q28.2 v0 4 8) fun x33 =>
            Option.bind (mx_gr q28.2 v0 4 7) fun x36 =>
            Option.bind (mx_agl q28.2 x36 4 v1) fun x38 =>
            if (v2 + x38) < (q28.1 + 10) then (Option.bind (mx_gr q28.2 v0 4 8) fun x41 =>
              Option.bind (mx_agl q28.2 x41 4 v1) fun x43 =>
              Option.bind (mx_asl q28.2 x33 4 v1 x43) fun m46 =>
              fl_Mo_depart_24 n v0 v1 v2 (v4 + 1) m46)
            else (Option.bind (mx_gr q28.2 v0 4 8) fun x41 =>
              Option.bind (mx_agl q28.2 x41 4 v1) fun x43 =>
              if (q28.1 + 10) ≤ x43 then (Option.bind (mx_gr q28.2 v0 4 8) fun x46 =>
                Option.bind (mx_agl q28.2 x46 4 v1) fun x48 =>
                Option.bind (mx_asl q28.2 x33 4 v1 x48) fun m51 =>
                fl_Mo_depart_24 n v0 v1 v2 (v4 + 1) m51)
              else (Option.bind (mx_asl q28.2 x33 4 v1 (q28.1 + 10)) fun m47 =>
                fl_Mo_depart_24 n v0 v1 v2 (v4 + 1) m47)))
          else (Option.bind (mx_gr mem v0 4 8) fun x24 =>
            Option.bind (mx_gr mem v0 4 8) fun x27 =>
            Option.bind (mx_agl mem x27 4 v1) fun x29 =>
            Option.bind (mx_asl mem x24 4 v1 x29) fun m32 =>
            fl_Mo_depart_24 n v0 v1 v2 (v4 + 1) m32))
        else (Option.bind (mx_gr mem v0 4 8) fun x19 =>
          Option.bind (mx_gr mem v0 4 8) fun x22 =>
          Option.bind (mx_agl mem x22 4 v1) fun x24 =>
          Option.bind (mx_asl mem x19 4 v1 x24) fun m27 =>
          fl_Mo_depart_24 n v0 v1 v2 (v4 + 1) m27)))
def f_Mo_depart (a0 : Nat) (v1 : Int32) (mem : mx_Mem) : Option (mx_Mem) :=
    Option.bind (mx_gr mem (some a0) 4 4) fun x1 =>
    Option.bind (mx_agl mem x1 4 v1) fun x3 =>
    Option.bind (mx_gr mem (some a0) 4 6) fun x5 =>
    Option.bind (mx_agl mem x5 4 v1) fun x7 =>
    Option.bind (mx_gr mem (some a0) 4 8) fun x9 =>
    Option.bind (mx_asl mem x9 4 v1 (x3 + x7)) fun m12 =>
    fl_Mo_depart_24  5000 (some a0) v1 (x3 + x7) 1 m12
def fj_Mo_arrive_112 (v0 : Option Nat) (v1 : Int32) (v2 : Int64) (v4 : Int32) (mem : mx_Mem) : Option (mx_Mem) :=
    Option.bind (mx_gr mem v0 4 20) fun x1 =>
    Option.bind (mx_asi mem x1 5 v1 1) fun m5 =>
    Option.bind (mx_gr m5 v0 4 19) fun x6 =>
    Option.bind (mx_asl m5 x6 4 v1 (v2 + 1440)) fun m10 =>
    some m10
def fj_Mo_arrive_78 (v0 : Option Nat) (v1 : Int32) (v2 : Int64) (v4 : Int32) (mem : mx_Mem) : Option (mx_Mem) :=
    Option.bind (mx_gr mem v0 4 14) fun x1 =>
    Option.bind (mx_agi mem x1 3 v1) fun x3 =>
    if x3 ≤ 0 then (fj_Mo_arrive_112 v0 v1 v2 v4 mem)
    else (Option.bind (mx_gr mem v0 4 8) fun x6 =>
      Option.bind (mx_gr mem v0 4 17) fun x8 =>
      Option.bind (mx_agi mem x8 3 v4) fun x10 =>
      Option.bind (mx_agl mem x6 4 x10) fun x12 =>
      if x12 < (v2 + 10) then (fj_Mo_arrive_112 v0 v1 v2 v4 mem)
      else (Option.bind (mx_gr mem v0 4 20) fun x15 =>
        Option.bind (mx_asi mem x15 5 v1 0) fun m19 =>
        Option.bind (mx_gr m19 v0 4 19) fun x20 =>
        Option.bind (mx_gr m19 v0 4 17) fun x23 =>
        Option.bind (mx_agi m19 x23 3 v4) fun x25 =>
        Option.bind (mx_c m19 v0 4) fun a30 =>
        Option.bind (f_Mo_there a30 x25 m19) fun q27 =>
        Option.bind (mx_asl q27.2 x20 4 v1 q27.1) fun m33 =>
        some m33))
def f_Mo_arrive (a0 : Nat) (v1 : Int32) (mem : mx_Mem) : Option (mx_Mem) :=
    Option.bind (mx_gr mem (some a0) 4 10) fun x1 =>
    Option.bind (mx_agi mem x1 3 v1) fun x3 =>
    Option.bind (mx_c mem (some a0) 4) fun a8 =>
    Option.bind (f_Mo_there a8 x3 mem) fun q5 =>
    Option.bind (mx_gr q5.2 (some a0) 4 20) fun x10 =>
    Option.bind (mx_asi q5.2 x10 5 v1 0) fun m13 =>
    Option.bind (mx_c m13 (some a0) 4) fun a17 =>
    Option.bind (f_Mo_isDirect a17 v1 m13) fun q14 =>
    if q14.1 = 0 then (Option.bind (mx_gr q14.2 (some a0) 4 15) fun x20 =>
      Option.bind (mx_agi q14.2 x20 3 v1) fun x22 =>
      Option.bind (mx_gr q14.2 (some a0) 4 14) fun x24 =>
      Option.bind (mx_agi q14.2 x24 3 v1) fun x26 =>
      if x26 ≤ 0 then (fj_Mo_arrive_78 (some a0) v1 q5.1 ((4 * v1) + x22) q14.2)
      else (Option.bind (mx_gr q14.2 (some a0) 4 16) fun x29 =>
        Option.bind (mx_agi q14.2 x29 3 ((4 * v1) + x22)) fun x31 =>
        if x31 = 2 then (Option.bind (mx_gr q14.2 (some a0) 4 19) fun x34 =>
          Option.bind (mx_asl q14.2 x34 4 v1 (q5.1 + 60)) fun m37 =>
          some m37)
        else (fj_Mo_arrive_78 (some a0) v1 q5.1 ((4 * v1) + x22) q14.2)))
    else (Option.bind (mx_gr q14.2 (some a0) 4 19) fun x20 =>
      Option.bind (mx_asl q14.2 x20 4 v1 q5.1) fun m23 =>
      some m23)
def fl_Mo_reckon_24 (k0 : Option Nat → Int32 → Int32 → mx_Mem → Option (mx_Mem)) : Nat → Option Nat → Int64 → Int32 → Int32 → Int32 → Int32 → mx_Mem → Option (mx_Mem)
  | 0, _, _, _, _, _, _, _ => none
  | n + 1, v0, v1, v3, v4, v5, v6, mem => Option.bind (mx_gi mem v0 4 1) fun x1 =>
    if x1 < v6 then (k0 v0 v4 v5 mem)
    else (Option.bind (mx_gr mem v0 4 4) fun x4 =>
      Option.bind (mx_agl mem x4 4 v6) fun x6 =>
      if v1 < x6 then (if v5 = 0 then (fl_Mo_reckon_24 k0 n v0 v1 v3 v4 v6 (v6 + 1) mem)
        else (Option.bind (mx_gr mem v0 4 4) fun x11 =>
          Option.bind (mx_agl mem x11 4 v6) fun x13 =>
          Option.bind (mx_gr mem v0 4 4) fun x15 =>
          Option.bind (mx_agl mem x15 4 v5) fun x17 =>
          if x17 ≤ x13 then (fl_Mo_reckon_24 k0 n v0 v1 v3 v4 v5 (v6 + 1) mem)
          else (fl_Mo_reckon_24 k0 n v0 v1 v3 v4 v6 (v6 + 1) mem)))
      else (Option.bind (mx_gr mem v0 4 4) fun x9 =>
        Option.bind (mx_agl mem x9 4 v6) fun x11 =>
        if x11 = v1 then (if v6 ≤ v3 then (fl_Mo_reckon_24 k0 n v0 v1 v3 v4 v5 (v6 + 1) mem)
          else (if v5 = 0 then (fl_Mo_reckon_24 k0 n v0 v1 v3 v4 v6 (v6 + 1) mem)
            else (Option.bind (mx_gr mem v0 4 4) fun x17 =>
              Option.bind (mx_agl mem x17 4 v6) fun x19 =>
              Option.bind (mx_gr mem v0 4 4) fun x21 =>
              Option.bind (mx_agl mem x21 4 v5) fun x23 =>
              if x23 ≤ x19 then (fl_Mo_reckon_24 k0 n v0 v1 v3 v4 v5 (v6 + 1) mem)
              else (fl_Mo_reckon_24 k0 n v0 v1 v3 v4 v6 (v6 + 1) mem))))
        else (fl_Mo_reckon_24 k0 n v0 v1 v3 v4 v5 (v6 + 1) mem)))
def fl_Mo_reckon_9 (k0 : Option Nat → mx_Mem → Option (mx_Mem)) : Nat → Option Nat → Int64 → Int32 → Int32 → mx_Mem → Option (mx_Mem)
  | 0, _, _, _, _, _ => none
  | n + 1, v0, v1, v3, v4, mem => Option.bind (mx_gi mem v0 4 1) fun x1 =>
    if x1 ≤ v4 then (k0 v0 mem)
    else (fl_Mo_reckon_24 (fun (v0 : Option Nat) (v4 : Int32) (v5 : Int32) (m4 : mx_Mem) => Option.bind (mx_gr m4 v0 4 4) fun x5 =>
        Option.bind (mx_agl m4 x5 4 v5) fun x7 =>
        Option.bind (mx_c m4 v0 4) fun a12 =>
        Option.bind (f_Mo_depart a12 v5 m4) fun q9 =>
        fl_Mo_reckon_9 k0 n v0 x7 v5 (v4 + 1) q9) 5000 v0 v1 v3 v4 0 1 mem)
def fl_Mo_reckon_139  : Nat → Option Nat → Int32 → mx_Mem → Option (mx_Mem)
  | 0, _, _, _ => none
  | n + 1, v0, v4, mem => Option.bind (mx_gi mem v0 4 9) fun x1 =>
    if x1 < v4 then (some mem)
    else (Option.bind (mx_c mem v0 4) fun a7 =>
      Option.bind (f_Mo_arrive a7 v4 mem) fun q4 =>
      fl_Mo_reckon_139 n v0 (v4 + 1) q4)
def f_Mo_reckon (a0 : Nat) (mem : mx_Mem) : Option (mx_Mem) :=
    fl_Mo_reckon_9 (fun (v0 : Option Nat) (m1 : mx_Mem) => fl_Mo_reckon_139  5000 v0 1 m1) 5000 (some a0) (-1) 0 0 mem
def fl_Mo_late_47  : Nat → Option Nat → Int32 → Int32 → mx_Mem → Option (Int32 × mx_Mem)
  | 0, _, _, _, _ => none
  | n + 1, v0, v4, v5, mem => Option.bind (mx_gi mem v0 4 9) fun x1 =>
    if x1 < v5 then (some (v4, mem))
    else (Option.bind (mx_gr mem v0 4 20) fun x4 =>
      Option.bind (mx_agi mem x4 5 v5) fun x6 =>
      if x6 = 0 then (Option.bind (mx_gr mem v0 4 19) fun x9 =>
        Option.bind (mx_agl mem x9 4 v5) fun x11 =>
        Option.bind (mx_gr mem v0 4 12) fun x13 =>
        Option.bind (mx_agl mem x13 4 v5) fun x15 =>
        if x11 ≤ x15 then (fl_Mo_late_47 n v0 (v4 + 0) (v5 + 1) mem)
        else (fl_Mo_late_47 n v0 (v4 + 1) (v5 + 1) mem))
      else (fl_Mo_late_47 n v0 (v4 + 1) (v5 + 1) mem))
def f_Mo_late (a0 : Nat) (v1 : Int32) (v2 : Int64) (mem : mx_Mem) : Option (Int32 × mx_Mem) :=
    Option.bind (mx_p mem (some a0) 4 0 (.int 0)) fun m1 =>
    Option.bind (mx_c m1 (some a0) 4) fun a6 =>
    Option.bind (f_Mo_isLine a6 v1 m1) fun q3 =>
    if q3.1 = 0 then (some ((-11), q3.2))
    else (Option.bind (f_Mo_in v2 0 2000 q3.2) fun q9 =>
      if q9.1 = 0 then (some ((-12), q9.2))
      else (Option.bind (mx_gr q9.2 (some a0) 4 6) fun x13 =>
        Option.bind (mx_asl q9.2 x13 4 v1 v2) fun m16 =>
        Option.bind (mx_c m16 (some a0) 4) fun a20 =>
        Option.bind (f_Mo_reckon a20  m16) fun q17 =>
        fl_Mo_late_47  5000 (some a0) 0 1 q17))
def f_Lo_rememberArrival (a0 : Nat) (mem : mx_Mem) : Option (mx_Mem) :=
    Option.bind (mx_gl mem (some a0) 3 9) fun x1 =>
    Option.bind (mx_p mem (some a0) 3 10 (.long x1)) fun m3 =>
    some m3
def fl_Lo_concerns_18  : Nat → Option Nat → Option Nat → Int32 → mx_Mem → Option (Int32 × mx_Mem)
  | 0, _, _, _, _ => none
  | n + 1, v0, v1, v2, mem => Option.bind (mx_gi mem v0 3 5) fun x1 =>
    if x1 ≤ v2 then (some (0, mem))
    else (Option.bind (mx_gr mem v0 3 4) fun x4 =>
      Option.bind (mx_ag mem x4 2 v2) fun x6 =>
      Option.bind (mx_gr mem x6 2 1) fun x8 =>
      if x8 = none then (fl_Lo_concerns_18 n v0 v1 (v2 + 1) mem)
      else (Option.bind (mx_gi mem x8 1 0) fun x11 =>
        Option.bind (mx_gi mem v1 1 0) fun x13 =>
        if x11 = x13 then (some (1, mem))
        else (fl_Lo_concerns_18 n v0 v1 (v2 + 1) mem)))
def f_Lo_concerns (a0 : Nat) (v1 : Option Nat) (mem : mx_Mem) : Option (Int32 × mx_Mem) :=
    Option.bind (mx_gr mem (some a0) 3 0) fun x1 =>
    Option.bind (mx_gi mem x1 1 0) fun x3 =>
    Option.bind (mx_gi mem v1 1 0) fun x5 =>
    if x3 = x5 then (some (1, mem))
    else (fl_Lo_concerns_18  5000 (some a0) v1 0 mem)
def f_Lo_pickFirst (a0 : Nat) (mem : mx_Mem) : Option (mx_Mem) :=
    Option.bind (mx_gi mem (some a0) 3 5) fun x1 =>
    if x1 ≤ 0 then (Option.bind (mx_p mem (some a0) 3 6 (.int (-1))) fun m4 =>
      some m4)
    else (Option.bind (mx_p mem (some a0) 3 6 (.int 0)) fun m4 =>
      some m4)
def f_Lo_hasMoved (a0 : Nat) (mem : mx_Mem) : Option (Int32 × mx_Mem) :=
    Option.bind (mx_gl mem (some a0) 3 9) fun x1 =>
    Option.bind (mx_gl mem (some a0) 3 10) fun x3 =>
    if x1 = x3 then (some (0, mem))
    else (some (1, mem))
def fl_LR_countMoved_4  : Nat → Option Nat → Int32 → Int32 → mx_Mem → Option (Int32 × mx_Mem)
  | 0, _, _, _, _ => none
  | n + 1, v0, v1, v2, mem => Option.bind (mx_gi mem v0 0 4) fun x1 =>
    if x1 ≤ v2 then (some (v1, mem))
    else (Option.bind (mx_gr mem v0 0 2) fun x4 =>
      Option.bind (mx_ag mem x4 1 v2) fun x6 =>
      Option.bind (mx_c mem x6 3) fun a11 =>
      Option.bind (f_Lo_hasMoved a11  mem) fun q8 =>
      if q8.1 = 0 then (fl_LR_countMoved_4 n v0 v1 (v2 + 1) q8.2)
      else (fl_LR_countMoved_4 n v0 (v1 + 1) (v2 + 1) q8.2))
def f_LR_countMoved (a0 : Nat) (mem : mx_Mem) : Option (Int32 × mx_Mem) :=
    fl_LR_countMoved_4  5000 (some a0) 0 0 mem
def fl_LR_tell_32  : Nat → Option Nat → Int64 → Option Nat → Int32 → mx_Mem → Option (Int32 × mx_Mem)
  | 0, _, _, _, _, _ => none
  | n + 1, v0, v2, v4, v5, mem => Option.bind (mx_gi mem v0 0 4) fun x1 =>
    if x1 ≤ v5 then (Option.bind (mx_p mem v4 1 5 (.long v2)) fun m4 =>
      Option.bind (mx_c m4 v0 0) fun a9 =>
      Option.bind (f_LR_settle a9  m4) fun q6 =>
      Option.bind (mx_c q6 v0 0) fun a14 =>
      Option.bind (f_LR_countMoved a14  q6) fun q11 =>
      some (q11.1, q11.2))
    else (Option.bind (mx_gr mem v0 0 2) fun x4 =>
      Option.bind (mx_ag mem x4 1 v5) fun x6 =>
      Option.bind (mx_c mem x6 3) fun a11 =>
      Option.bind (f_Lo_rememberArrival a11  mem) fun q8 =>
      Option.bind (mx_gr q8 v0 0 2) fun x13 =>
      Option.bind (mx_ag q8 x13 1 v5) fun x15 =>
      Option.bind (mx_c q8 x15 3) fun a20 =>
      Option.bind (f_Lo_concerns a20 v4 q8) fun q17 =>
      if q17.1 = 0 then (fl_LR_tell_32 n v0 v2 v4 (v5 + 1) q17.2)
      else (Option.bind (mx_gr q17.2 v0 0 2) fun x23 =>
        Option.bind (mx_ag q17.2 x23 1 v5) fun x25 =>
        Option.bind (mx_c q17.2 x25 3) fun a30 =>
        Option.bind (f_Lo_pickFirst a30  q17.2) fun q27 =>
        fl_LR_tell_32 n v0 v2 v4 (v5 + 1) q27))
def f_LR_tell (a0 : Nat) (v1 : Int32) (v2 : Int64) (mem : mx_Mem) : Option (Int32 × mx_Mem) :=
    Option.bind (mx_c mem (some a0) 0) fun a4 =>
    Option.bind (f_LR_findLine a4 v1 mem) fun q1 =>
    if q1.1 = none then (some ((-11), q1.2))
    else (Option.bind (f_LR_isWithin v2 0 2000 q1.2) fun q7 =>
      if q7.1 = 0 then (some ((-12), q7.2))
      else (fl_LR_tell_32  5000 (some a0) v2 q1.1 0 q7.2))
def fl_Mo_tell_37 (k0 : Option Nat → Int32 → Int64 → mx_Mem → Option (Int32 × mx_Mem)) : Nat → Option Nat → Int32 → Int64 → Int32 → mx_Mem → Option (Int32 × mx_Mem)
  | 0, _, _, _, _, _ => none
  | n + 1, v0, v1, v2, v4, mem => Option.bind (mx_gi mem v0 4 9) fun x1 =>
    if x1 < v4 then (k0 v0 v1 v2 mem)
    else (Option.bind (mx_gr mem v0 4 22) fun x4 =>
      Option.bind (mx_gr mem v0 4 19) fun x6 =>
      Option.bind (mx_agl mem x6 4 v4) fun x8 =>
      Option.bind (mx_asl mem x4 4 v4 x8) fun m11 =>
      fl_Mo_tell_37 k0 n v0 v1 v2 (v4 + 1) m11)
def fl_Mo_tell_106 (k0 : Option Nat → Int32 → Int32 → Int32 → mx_Mem → Option (Int32 × mx_Mem)) : Nat → Option Nat → Int32 → Int32 → Int32 → Int32 → mx_Mem → Option (Int32 × mx_Mem)
  | 0, _, _, _, _, _, _ => none
  | n + 1, v0, v1, v4, v5, v6, mem => Option.bind (mx_gr mem v0 4 14) fun x1 =>
    Option.bind (mx_agi mem x1 3 v4) fun x3 =>
    if x3 ≤ v6 then (k0 v0 v1 v4 v5 mem)
    else (if v5 = 0 then (Option.bind (mx_gr mem v0 4 17) fun x7 =>
        Option.bind (mx_agi mem x7 3 ((4 * v4) + v6)) fun x9 =>
        if x9 = v1 then (fl_Mo_tell_106 k0 n v0 v1 v4 1 (v6 + 1) mem)
        else (fl_Mo_tell_106 k0 n v0 v1 v4 0 (v6 + 1) mem))
      else (fl_Mo_tell_106 k0 n v0 v1 v4 1 (v6 + 1) mem))
def fl_Mo_tell_76 (k0 : Option Nat → mx_Mem → Option (Int32 × mx_Mem)) : Nat → Option Nat → Int32 → Int32 → mx_Mem → Option (Int32 × mx_Mem)
  | 0, _, _, _, _ => none
  | n + 1, v0, v1, v4, mem => Option.bind (mx_gi mem v0 4 9) fun x1 =>
    if x1 < v4 then (k0 v0 mem)
    else (Option.bind (mx_gr mem v0 4 10) fun x4 =>
      Option.bind (mx_agi mem x4 3 v4) fun x6 =>
      if x6 = v1 then (fl_Mo_tell_106 (fun (v0 : Option Nat) (v1 : Int32) (v4 : Int32) (v5 : Int32) (m9 : mx_Mem) => Option.bind (mx_gr m9 v0 4 15) fun x10 =>
          if v5 = 0 then (Option.bind (mx_gr m9 v0 4 15) fun x13 =>
            Option.bind (mx_agi m9 x13 3 v4) fun x15 =>
            Option.bind (mx_asi m9 x10 3 v4 x15) fun m18 =>
            fl_Mo_tell_76 k0 n v0 v1 (v4 + 1) m18)
          else (Option.bind (mx_asi m9 x10 3 v4 0) fun m14 =>
            fl_Mo_tell_76 k0 n v0 v1 (v4 + 1) m14)) 5000 v0 v1 v4 1 0 mem)
      else (fl_Mo_tell_106 (fun (v0 : Option Nat) (v1 : Int32) (v4 : Int32) (v5 : Int32) (m9 : mx_Mem) => Option.bind (mx_gr m9 v0 4 15) fun x10 =>
          if v5 = 0 then (Option.bind (mx_gr m9 v0 4 15) fun x13 =>
            Option.bind (mx_agi m9 x13 3 v4) fun x15 =>
            Option.bind (mx_asi m9 x10 3 v4 x15) fun m18 =>
            fl_Mo_tell_76 k0 n v0 v1 (v4 + 1) m18)
          else (Option.bind (mx_asi m9 x10 3 v4 0) fun m14 =>
            fl_Mo_tell_76 k0 n v0 v1 (v4 + 1) m14)) 5000 v0 v1 v4 0 0 mem))
def fl_Mo_tell_191  : Nat → Option Nat → Int32 → Int32 → mx_Mem → Option (Int32 × mx_Mem)
  | 0, _, _, _, _ => none
  | n + 1, v0, v4, v5, mem => Option.bind (mx_gi mem v0 4 9) fun x1 =>
    if x1 < v5 then (some (v4, mem))
    else (Option.bind (mx_gr mem v0 4 19) fun x4 =>
      Option.bind (mx_agl mem x4 4 v5) fun x6 =>
      Option.bind (mx_gr mem v0 4 22) fun x8 =>
      Option.bind (mx_agl mem x8 4 v5) fun x10 =>
      if x6 = x10 then (fl_Mo_tell_191 n v0 (v4 + 0) (v5 + 1) mem)
      else (fl_Mo_tell_191 n v0 (v4 + 1) (v5 + 1) mem))
def f_Mo_tell (a0 : Nat) (v1 : Int32) (v2 : Int64) (mem : mx_Mem) : Option (Int32 × mx_Mem) :=
    Option.bind (mx_p mem (some a0) 4 0 (.int 0)) fun m1 =>
    Option.bind (mx_c m1 (some a0) 4) fun a6 =>
    Option.bind (f_Mo_isLine a6 v1 m1) fun q3 =>
    if q3.1 = 0 then (some ((-11), q3.2))
    else (Option.bind (f_Mo_in v2 0 2000 q3.2) fun q9 =>
      if q9.1 = 0 then (some ((-12), q9.2))
      else (Option.bind (mx_c q9.2 (some a0) 4) fun a16 =>
        Option.bind (f_Mo_reckon a16  q9.2) fun q13 =>
        fl_Mo_tell_37 (fun (v0 : Option Nat) (v1 : Int32) (v2 : Int64) (m18 : mx_Mem) => Option.bind (mx_gr m18 v0 4 6) fun x19 =>
          Option.bind (mx_asl m18 x19 4 v1 v2) fun m22 =>
          fl_Mo_tell_76 (fun (v0 : Option Nat) (m23 : mx_Mem) => Option.bind (mx_c m23 v0 4) fun a27 =>
            Option.bind (f_Mo_reckon a27  m23) fun q24 =>
            fl_Mo_tell_191  5000 v0 0 1 q24) 5000 v0 v1 1 m22) 5000 (some a0) v1 v2 1 q13))
def f_Lo_harm (a0 : Nat) (mem : mx_Mem) : Option (Int64 × mx_Mem) :=
    Option.bind (mx_c mem (some a0) 3) fun a4 =>
    Option.bind (f_Lo_pickedOption a4  mem) fun q1 =>
    Option.bind (mx_gi q1.2 (some a0) 3 3) fun x6 =>
    Option.bind (mx_c q1.2 (some a0) 3) fun a11 =>
    Option.bind (f_Lo_minutesBehind a11  q1.2) fun q8 =>
    if q1.1 = none then (some (((x6.toInt64 * q8.1) + 0), q8.2))
    else (Option.bind (mx_gl q8.2 q1.1 2 2) fun x14 =>
      some (((x6.toInt64 * q8.1) + x14), q8.2))
def fl_LR_sumHarm_4  : Nat → Option Nat → Int64 → Int32 → mx_Mem → Option (Int64 × mx_Mem)
  | 0, _, _, _, _ => none
  | n + 1, v0, v1, v3, mem => Option.bind (mx_gi mem v0 0 4) fun x1 =>
    if x1 ≤ v3 then (some (v1, mem))
    else (Option.bind (mx_gr mem v0 0 2) fun x4 =>
      Option.bind (mx_ag mem x4 1 v3) fun x6 =>
      Option.bind (mx_c mem x6 3) fun a11 =>
      Option.bind (f_Lo_harm a11  mem) fun q8 =>
      fl_LR_sumHarm_4 n v0 (v1 + q8.1) (v3 + 1) q8.2)
def f_LR_sumHarm (a0 : Nat) (mem : mx_Mem) : Option (Int64 × mx_Mem) :=
    fl_LR_sumHarm_4  5000 (some a0) 0 0 mem
def f_Lo_isAct (a0 : Nat) (mem : mx_Mem) : Option (Int32 × mx_Mem) :=
    Option.bind (mx_c mem (some a0) 3) fun a4 =>
    Option.bind (f_Lo_pickedOption a4  mem) fun q1 =>
    if q1.1 = none then (some (0, q1.2))
    else (Option.bind (mx_gi q1.2 q1.1 2 0) fun x7 =>
      if x7 = 0 then (some (0, q1.2))
      else (some (1, q1.2)))
def fl_LR_countActs_4  : Nat → Option Nat → Int32 → Int32 → mx_Mem → Option (Int32 × mx_Mem)
  | 0, _, _, _, _ => none
  | n + 1, v0, v1, v2, mem => Option.bind (mx_gi mem v0 0 4) fun x1 =>
    if x1 ≤ v2 then (some (v1, mem))
    else (Option.bind (mx_gr mem v0 0 2) fun x4 =>
      Option.bind (mx_ag mem x4 1 v2) fun x6 =>
      Option.bind (mx_c mem x6 3) fun a11 =>
      Option.bind (f_Lo_isAct a11  mem) fun q8 =>
      if q8.1 = 0 then (fl_LR_countActs_4 n v0 v1 (v2 + 1) q8.2)
      else (fl_LR_countActs_4 n v0 (v1 + 1) (v2 + 1) q8.2))
def f_LR_countActs (a0 : Nat) (mem : mx_Mem) : Option (Int32 × mx_Mem) :=
    fl_LR_countActs_4  5000 (some a0) 0 0 mem
def f_Lo_keepPicked (a0 : Nat) (mem : mx_Mem) : Option (mx_Mem) :=
    Option.bind (mx_gi mem (some a0) 3 6) fun x1 =>
    Option.bind (mx_p mem (some a0) 3 7 (.int x1)) fun m3 =>
    some m3
def fl_LR_keepChoice_2  : Nat → Option Nat → Int32 → mx_Mem → Option (mx_Mem)
  | 0, _, _, _ => none
  | n + 1, v0, v1, mem => Option.bind (mx_gi mem v0 0 4) fun x1 =>
    if x1 ≤ v1 then (some mem)
    else (Option.bind (mx_gr mem v0 0 2) fun x4 =>
      Option.bind (mx_ag mem x4 1 v1) fun x6 =>
      Option.bind (mx_c mem x6 3) fun a11 =>
      Option.bind (f_Lo_keepPicked a11  mem) fun q8 =>
      fl_LR_keepChoice_2 n v0 (v1 + 1) q8)
def f_LR_keepChoice (a0 : Nat) (mem : mx_Mem) : Option (mx_Mem) :=
    fl_LR_keepChoice_2  5000 (some a0) 0 mem
def f_Lo_pickNext (a0 : Nat) (mem : mx_Mem) : Option (Int32 × mx_Mem) :=
    Option.bind (mx_gi mem (some a0) 3 6) fun x1 =>
    Option.bind (mx_gi mem (some a0) 3 5) fun x3 =>
    if (x1 + 1) < x3 then (Option.bind (mx_gi mem (some a0) 3 6) fun x6 =>
      Option.bind (mx_p mem (some a0) 3 6 (.int ((x6 + 1)))) fun m8 =>
      some (1, m8))
    else (some (0, mem))
def fl_LR_pickNextChoice_7  : Nat → Option Nat → Int32 → mx_Mem → Option (Int32 × mx_Mem)
  | 0, _, _, _ => none
  | n + 1, v0, v1, mem => if v1 < 0 then (some (0, mem))
    else (Option.bind (mx_gr mem v0 0 2) fun x2 =>
      Option.bind (mx_ag mem x2 1 v1) fun x4 =>
      Option.bind (mx_c mem x4 3) fun a9 =>
      Option.bind (f_Lo_pickNext a9  mem) fun q6 =>
      if q6.1 = 0 then (Option.bind (mx_gr q6.2 v0 0 2) fun x12 =>
        Option.bind (mx_ag q6.2 x12 1 v1) fun x14 =>
        Option.bind (mx_c q6.2 x14 3) fun a19 =>
        Option.bind (f_Lo_pickFirst a19  q6.2) fun q16 =>
        fl_LR_pickNextChoice_7 n v0 (v1 + (-1)) q16)
      else (some (1, q6.2)))
def f_LR_pickNextChoice (a0 : Nat) (mem : mx_Mem) : Option (Int32 × mx_Mem) :=
    Option.bind (mx_gi mem (some a0) 0 4) fun x1 =>
    fl_LR_pickNextChoice_7  5000 (some a0) (x1 - 1) mem
def f_Lo_takeKept (a0 : Nat) (mem : mx_Mem) : Option (mx_Mem) :=
    Option.bind (mx_gi mem (some a0) 3 7) fun x1 =>
    Option.bind (mx_p mem (some a0) 3 6 (.int x1)) fun m3 =>
    some m3
def fl_LR_takeKeptChoice_2  : Nat → Option Nat → Int32 → mx_Mem → Option (mx_Mem)
  | 0, _, _, _ => none
  | n + 1, v0, v1, mem => Option.bind (mx_gi mem v0 0 4) fun x1 =>
    if x1 ≤ v1 then (some mem)
    else (Option.bind (mx_gr mem v0 0 2) fun x4 =>
      Option.bind (mx_ag mem x4 1 v1) fun x6 =>
      Option.bind (mx_c mem x6 3) fun a11 =>
      Option.bind (f_Lo_takeKept a11  mem) fun q8 =>
      fl_LR_takeKeptChoice_2 n v0 (v1 + 1) q8)
def f_LR_takeKeptChoice (a0 : Nat) (mem : mx_Mem) : Option (mx_Mem) :=
    fl_LR_takeKeptChoice_2  5000 (some a0) 0 mem
def fl_LR_solve_2 (k0 : Option Nat → mx_Mem → Option (Int64 × mx_Mem)) : Nat → Option Nat → Int32 → mx_Mem → Option (Int64 × mx_Mem)
  | 0, _, _, _ => none
  | n + 1, v0, v1, mem => Option.bind (mx_gi mem v0 0 4) fun x1 =>
    if x1 ≤ v1 then (k0 v0 mem)
    else (Option.bind (mx_gr mem v0 0 2) fun x4 =>
      Option.bind (mx_ag mem x4 1 v1) fun x6 =>
      Option.bind (mx_c mem x6 3) fun a11 =>
      Option.bind (f_Lo_pickFirst a11  mem) fun q8 =>
      fl_LR_solve_2 k0 n v0 (v1 + 1) q8)
def fl_LR_solve_37  : Nat → Option Nat → Int64 → Int32 → Int32 → Int32 → mx_Mem → Option (Int64 × mx_Mem)
  | 0, _, _, _, _, _, _ => none
  | n + 1, v0, v1, v3, v4, v5, mem => if v4 = 0 then (Option.bind (mx_c mem v0 0) fun a5 =>
      Option.bind (f_LR_takeKeptChoice a5  mem) fun q2 =>
      Option.bind (mx_c q2 v0 0) fun a10 =>
      Option.bind (f_LR_settle a10  q2) fun q7 =>
      some (v1, q7))
    else (if 4096 ≤ v5 then (Option.bind (mx_c mem v0 0) fun a6 =>
        Option.bind (f_LR_takeKeptChoice a6  mem) fun q3 =>
        Option.bind (mx_c q3 v0 0) fun a11 =>
        Option.bind (f_LR_settle a11  q3) fun q8 =>
        some (v1, q8))
      else (Option.bind (mx_c mem v0 0) fun a6 =>
        Option.bind (f_LR_settle a6  mem) fun q3 =>
        Option.bind (mx_c q3 v0 0) fun a11 =>
        Option.bind (f_LR_sumHarm a11  q3) fun q8 =>
        Option.bind (mx_c q8.2 v0 0) fun a16 =>
        Option.bind (f_LR_countActs a16  q8.2) fun q13 =>
        if q8.1 < v1 then (Option.bind (mx_c q13.2 v0 0) fun a22 =>
          Option.bind (f_LR_keepChoice a22  q13.2) fun q19 =>
          Option.bind (mx_c q19 v0 0) fun a27 =>
          Option.bind (f_LR_pickNextChoice a27  q19) fun q24 =>
          fl_LR_solve_37 n v0 q8.1 q13.1 q24.1 (v5 + 1) q24.2)
        else (if q8.1 = v1 then (if v3 ≤ q13.1 then (Option.bind (mx_c q13.2 v0 0) fun a24 =>
              Option.bind (f_LR_pickNextChoice a24  q13.2) fun q21 =>
              fl_LR_solve_37 n v0 v1 v3 q21.1 (v5 + 1) q21.2)
            else (Option.bind (mx_c q13.2 v0 0) fun a24 =>
              Option.bind (f_LR_keepChoice a24  q13.2) fun q21 =>
              Option.bind (mx_c q21 v0 0) fun a29 =>
              Option.bind (f_LR_pickNextChoice a29  q21) fun q26 =>
              fl_LR_solve_37 n v0 q8.1 q13.1 q26.1 (v5 + 1) q26.2))
          else (Option.bind (mx_c q13.2 v0 0) fun a23 =>
            Option.bind (f_LR_pickNextChoice a23  q13.2) fun q20 =>
            fl_LR_solve_37 n v0 v1 v3 q20.1 (v5 + 1) q20.2))))
def f_LR_solve (a0 : Nat) (mem : mx_Mem) : Option (Int64 × mx_Mem) :=
    fl_LR_solve_2 (fun (v0 : Option Nat) (m1 : mx_Mem) => fl_LR_solve_37  5000 v0 9223372036854775807 0 1 0 m1) 5000 (some a0) 0 mem
def fl_Mo_harm_4  : Nat → Option Nat → Int64 → Int32 → mx_Mem → Option (Int64 × mx_Mem)
  | 0, _, _, _, _ => none
  | n + 1, v0, v1, v3, mem => Option.bind (mx_gi mem v0 4 9) fun x1 =>
    if x1 < v3 then (some (v1, mem))
    else (Option.bind (mx_gr mem v0 4 19) fun x4 =>
      Option.bind (mx_agl mem x4 4 v3) fun x6 =>
      Option.bind (mx_gr mem v0 4 12) fun x8 =>
      Option.bind (mx_agl mem x8 4 v3) fun x10 =>
      if x6 ≤ x10 then (Option.bind (mx_gr mem v0 4 14) fun x13 =>
        Option.bind (mx_agi mem x13 3 v3) fun x15 =>
        if x15 ≤ 0 then (fl_Mo_harm_4 n v0 ((v1 + 0) + 0) (v3 + 1) mem)
        else (Option.bind (mx_gr mem v0 4 18) fun x18 =>
          Option.bind (mx_gr mem v0 4 15) fun x20 =>
          Option.bind (mx_agi mem x20 3 v3) fun x22 =>
          Option.bind (mx_agl mem x18 4 ((4 * v3) + x22)) fun x24 =>
          fl_Mo_harm_4 n v0 ((v1 + 0) + x24) (v3 + 1) mem))
      else (Option.bind (mx_gr mem v0 4 13) fun x13 =>
        Option.bind (mx_agi mem x13 3 v3) fun x15 =>
        Option.bind (mx_gr mem v0 4 19) fun x17 =>
        Option.bind (mx_agl mem x17 4 v3) fun x19 =>
        Option.bind (mx_gr mem v0 4 12) fun x21 =>
        Option.bind (mx_agl mem x21 4 v3) fun x23 =>
        Option.bind (mx_gr mem v0 4 14) fun x25 =>
        Option.bind (mx_agi mem x25 3 v3) fun x27 =>
        if x27 ≤ 0 then (fl_Mo_harm_4 n v0 ((v1 + (x15.toInt64 * (x19 - x23))) + 0) (v3 + 1) mem)
        else (Option.bind (mx_gr mem v0 4 18) fun x30 =>
          Option.bind (mx_gr mem v0 4 15) fun x32 =>
          Option.bind (mx_agi mem x32 3 v3) fun x34 =>
          Option.bind (mx_agl mem x30 4 ((4 * v3) + x34)) fun x36 =>
          fl_Mo_harm_4 n v0 ((v1 + (x15.toInt64 * (x19 - x23))) + x36) (v3 + 1) mem)))
def f_Mo_harm (a0 : Nat) (mem : mx_Mem) : Option (Int64 × mx_Mem) :=
    fl_Mo_harm_4  5000 (some a0) 0 1 mem
def fl_Mo_actsNow_4  : Nat → Option Nat → Int32 → Int32 → mx_Mem → Option (Int32 × mx_Mem)
  | 0, _, _, _, _ => none
  | n + 1, v0, v1, v2, mem => Option.bind (mx_gi mem v0 4 9) fun x1 =>
    if x1 < v2 then (some (v1, mem))
    else (Option.bind (mx_gr mem v0 4 14) fun x4 =>
      Option.bind (mx_agi mem x4 3 v2) fun x6 =>
      if x6 ≤ 0 then (fl_Mo_actsNow_4 n v0 (v1 + 0) (v2 + 1) mem)
      else (Option.bind (mx_gr mem v0 4 16) fun x9 =>
        Option.bind (mx_gr mem v0 4 15) fun x11 =>
        Option.bind (mx_agi mem x11 3 v2) fun x13 =>
        Option.bind (mx_agi mem x9 3 ((4 * v2) + x13)) fun x15 =>
        if x15 ≤ 0 then (fl_Mo_actsNow_4 n v0 (v1 + 0) (v2 + 1) mem)
        else (fl_Mo_actsNow_4 n v0 (v1 + 1) (v2 + 1) mem)))
def f_Mo_actsNow (a0 : Nat) (mem : mx_Mem) : Option (Int32 × mx_Mem) :=
    fl_Mo_actsNow_4  5000 (some a0) 0 1 mem
def fl_Mo_next_5 (k0 : Option Nat → Int32 → mx_Mem → Option (Int32 × mx_Mem)) : Nat → Option Nat → Int32 → mx_Mem → Option (Int32 × mx_Mem)
  | 0, _, _, _ => none
  | n + 1, v0, v1, mem => if v1 ≤ 0 then (k0 v0 v1 mem)
    else (Option.bind (mx_gr mem v0 4 15) fun x2 =>
      Option.bind (mx_agi mem x2 3 v1) fun x4 =>
      Option.bind (mx_gr mem v0 4 14) fun x6 =>
      Option.bind (mx_agi mem x6 3 v1) fun x8 =>
      if (x4 + 1) < x8 then (k0 v0 v1 mem)
      else (Option.bind (mx_gr mem v0 4 15) fun x11 =>
        Option.bind (mx_asi mem x11 3 v1 0) fun m14 =>
        fl_Mo_next_5 k0 n v0 (v1 + (-1)) m14))
def fj_Mo_next_39 (v0 : Option Nat) (v1 : Int32) (mem : mx_Mem) : Option (Int32 × mx_Mem) :=
    if v1 ≤ 0 then (if v1 ≤ 0 then (some (0, mem))
      else (some (1, mem)))
    else (Option.bind (mx_gr mem v0 4 15) fun x2 =>
      Option.bind (mx_agi mem x2 3 v1) fun x4 =>
      Option.bind (mx_asi mem x2 3 v1 (x4 + 1)) fun m7 =>
      if v1 ≤ 0 then (some (0, m7))
      else (some (1, m7)))
def f_Mo_next (a0 : Nat) (mem : mx_Mem) : Option (Int32 × mx_Mem) :=
    Option.bind (mx_gi mem (some a0) 4 9) fun x1 =>
    fl_Mo_next_5 (fun (v0 : Option Nat) (v1 : Int32) (m3 : mx_Mem) => fj_Mo_next_39 v0 v1 m3) 5000 (some a0) x1 mem
def fl_Mo_solve_7 (k0 : Option Nat → mx_Mem → Option (Int64 × mx_Mem)) : Nat → Option Nat → Int32 → mx_Mem → Option (Int64 × mx_Mem)
  | 0, _, _, _ => none
  | n + 1, v0, v1, mem => Option.bind (mx_gi mem v0 4 9) fun x1 =>
    if x1 < v1 then (k0 v0 mem)
    else (Option.bind (mx_gr mem v0 4 15) fun x4 =>
      Option.bind (mx_asi mem x4 3 v1 0) fun m7 =>
      fl_Mo_solve_7 k0 n v0 (v1 + 1) m7)
def fl_Mo_solve_96 (k0 : Option Nat → Int64 → Int32 → Int32 → mx_Mem → Option (Int64 × mx_Mem)) : Nat → Option Nat → Int64 → Int32 → Int32 → Int32 → mx_Mem → Option (Int64 × mx_Mem)
  | 0, _, _, _, _, _, _ => none
  | n + 1, v0, v1, v3, v4, v9, mem => Option.bind (mx_gi mem v0 4 9) fun x1 =>
    if x1 < v9 then (k0 v0 v1 v3 v4 mem)
    else (Option.bind (mx_gr mem v0 4 21) fun x4 =>
      Option.bind (mx_gr mem v0 4 15) fun x6 =>
      Option.bind (mx_agi mem x6 3 v9) fun x8 =>
      Option.bind (mx_asi mem x4 3 v9 x8) fun m11 =>
      fl_Mo_solve_96 k0 n v0 v1 v3 v4 (v9 + 1) m11)
def fl_Mo_solve_38 (k0 : Option Nat → Int64 → mx_Mem → Option (Int64 × mx_Mem)) : Nat → Option Nat → Int64 → Int32 → Int32 → Int32 → mx_Mem → Option (Int64 × mx_Mem)
  | 0, _, _, _, _, _, _ => none
  | n + 1, v0, v1, v3, v4, v5, mem => if v5 = 0 then (k0 v0 v1 mem)
    else (Option.bind (mx_c mem v0 4) fun a5 =>
      Option.bind (f_Mo_reckon a5  mem) fun q2 =>
      Option.bind (mx_c q2 v0 4) fun a10 =>
      Option.bind (f_Mo_harm a10  q2) fun q7 =>
      Option.bind (mx_c q7.2 v0 4) fun a15 =>
      Option.bind (f_Mo_actsNow a15  q7.2) fun q12 =>
      if v4 = 0 then (fl_Mo_solve_96 (fun (v0 : Option Nat) (v1 : Int64) (v3 : Int32) (v4 : Int32) (m18 : mx_Mem) => Option.bind (mx_c m18 v0 4) fun a22 =>
          Option.bind (f_Mo_next a22  m18) fun q19 =>
          fl_Mo_solve_38 k0 n v0 v1 v3 v4 q19.1 q19.2) 5000 v0 q7.1 q12.1 1 1 q12.2)
      else (if q7.1 < v1 then (fl_Mo_solve_96 (fun (v0 : Option Nat) (v1 : Int64) (v3 : Int32) (v4 : Int32) (m19 : mx_Mem) => Option.bind (mx_c m19 v0 4) fun a23 =>
            Option.bind (f_Mo_next a23  m19) fun q20 =>
            fl_Mo_solve_38 k0 n v0 v1 v3 v4 q20.1 q20.2) 5000 v0 q7.1 q12.1 1 1 q12.2)
        else (if q7.1 = v1 then (if v3 ≤ q12.1 then (Option.bind (mx_c q12.2 v0 4) fun a24 =>
              Option.bind (f_Mo_next a24  q12.2) fun q21 =>
              fl_Mo_solve_38 k0 n v0 v1 v3 v4 q21.1 q21.2)
            else (fl_Mo_solve_96 (fun (v0 : Option Nat) (v1 : Int64) (v3 : Int32) (v4 : Int32) (m21 : mx_Mem) => Option.bind (mx_c m21 v0 4) fun a25 =>
                Option.bind (f_Mo_next a25  m21) fun q22 =>
                fl_Mo_solve_38 k0 n v0 v1 v3 v4 q22.1 q22.2) 5000 v0 q7.1 q12.1 1 1 q12.2))
          else (Option.bind (mx_c q12.2 v0 4) fun a23 =>
            Option.bind (f_Mo_next a23  q12.2) fun q20 =>
            fl_Mo_solve_38 k0 n v0 v1 v3 v4 q20.1 q20.2))))
def fl_Mo_solve_137  : Nat → Option Nat → Int64 → Int32 → mx_Mem → Option (Int64 × mx_Mem)
  | 0, _, _, _, _ => none
  | n + 1, v0, v1, v6, mem => Option.bind (mx_gi mem v0 4 9) fun x1 =>
    if x1 < v6 then (some (v1, mem))
    else (Option.bind (mx_gr mem v0 4 15) fun x4 =>
      Option.bind (mx_gr mem v0 4 21) fun x6 =>
      Option.bind (mx_agi mem x6 3 v6) fun x8 =>
      Option.bind (mx_asi mem x4 3 v6 x8) fun m11 =>
      fl_Mo_solve_137 n v0 v1 (v6 + 1) m11)
def f_Mo_solve (a0 : Nat) (mem : mx_Mem) : Option (Int64 × mx_Mem) :=
    Option.bind (mx_p mem (some a0) 4 0 (.int 0)) fun m1 =>
    fl_Mo_solve_7 (fun (v0 : Option Nat) (m3 : mx_Mem) => fl_Mo_solve_38 (fun (v0 : Option Nat) (v1 : Int64) (m4 : mx_Mem) => fl_Mo_solve_137  5000 v0 v1 1 m4) 5000 v0 0 0 0 1 m3) 5000 (some a0) 1 m1
def f_LR_chosen (a0 : Nat) (v1 : Int32) (mem : mx_Mem) : Option (Int32 × mx_Mem) :=
    Option.bind (mx_c mem (some a0) 0) fun a4 =>
    Option.bind (f_LR_findLoad a4 v1 mem) fun q1 =>
    if q1.1 = none then (some ((-11), q1.2))
    else (Option.bind (mx_gi q1.2 q1.1 3 6) fun x7 =>
      some (x7, q1.2))
def f_Mo_chosen (a0 : Nat) (v1 : Int32) (mem : mx_Mem) : Option (Int32 × mx_Mem) :=
    Option.bind (mx_p mem (some a0) 4 0 (.int 0)) fun m1 =>
    Option.bind (mx_c m1 (some a0) 4) fun a6 =>
    Option.bind (f_Mo_isLoad a6 v1 m1) fun q3 =>
    if q3.1 = 0 then (some ((-11), q3.2))
    else (Option.bind (mx_gr q3.2 (some a0) 4 14) fun x9 =>
      Option.bind (mx_agi q3.2 x9 3 v1) fun x11 =>
      if x11 = 0 then (some ((-1), q3.2))
      else (Option.bind (mx_gr q3.2 (some a0) 4 15) fun x14 =>
        Option.bind (mx_agi q3.2 x14 3 v1) fun x16 =>
        some (x16, q3.2)))
def f_LR_arrival (a0 : Nat) (v1 : Int32) (mem : mx_Mem) : Option (Int64 × mx_Mem) :=
    Option.bind (mx_c mem (some a0) 0) fun a4 =>
    Option.bind (f_LR_findLoad a4 v1 mem) fun q1 =>
    if q1.1 = none then (some ((-11), q1.2))
    else (Option.bind (mx_gl q1.2 q1.1 3 9) fun x7 =>
      some (x7, q1.2))
def f_Mo_arrival (a0 : Nat) (v1 : Int32) (mem : mx_Mem) : Option (Int64 × mx_Mem) :=
    Option.bind (mx_p mem (some a0) 4 0 (.int 0)) fun m1 =>
    Option.bind (mx_c m1 (some a0) 4) fun a6 =>
    Option.bind (f_Mo_isLoad a6 v1 m1) fun q3 =>
    if q3.1 = 0 then (some ((-11), q3.2))
    else (Option.bind (mx_c q3.2 (some a0) 4) fun a12 =>
      Option.bind (f_Mo_reckon a12  q3.2) fun q9 =>
      Option.bind (mx_gr q9 (some a0) 4 19) fun x14 =>
      Option.bind (mx_agl q9 x14 4 v1) fun x16 =>
      some (x16, q9))
def f_LR_departs (a0 : Nat) (v1 : Int32) (mem : mx_Mem) : Option (Int64 × mx_Mem) :=
    Option.bind (mx_c mem (some a0) 0) fun a4 =>
    Option.bind (f_LR_findLine a4 v1 mem) fun q1 =>
    if q1.1 = none then (some ((-11), q1.2))
    else (Option.bind (mx_gl q1.2 q1.1 1 7) fun x7 =>
      some (x7, q1.2))
def f_Mo_departs (a0 : Nat) (v1 : Int32) (mem : mx_Mem) : Option (Int64 × mx_Mem) :=
    Option.bind (mx_p mem (some a0) 4 0 (.int 0)) fun m1 =>
    Option.bind (mx_c m1 (some a0) 4) fun a6 =>
    Option.bind (f_Mo_isLine a6 v1 m1) fun q3 =>
    if q3.1 = 0 then (some ((-11), q3.2))
    else (Option.bind (mx_c q3.2 (some a0) 4) fun a12 =>
      Option.bind (f_Mo_reckon a12  q3.2) fun q9 =>
      Option.bind (mx_gr q9 (some a0) 4 8) fun x14 =>
      Option.bind (mx_agl q9 x14 4 v1) fun x16 =>
      some (x16, q9))
def fl_LR_none_4  : Nat → Option Nat → Int32 → Int32 → Int32 → mx_Mem → Option (Int32 × mx_Mem)
  | 0, _, _, _, _, _ => none
  | n + 1, v0, v1, v2, v3, mem => Option.bind (mx_gi mem v0 0 4) fun x1 =>
    if x1 ≤ v3 then (some ((-1), mem))
    else (Option.bind (mx_gr mem v0 0 2) fun x4 =>
      Option.bind (mx_ag mem x4 1 v3) fun x6 =>
      Option.bind (mx_gi mem x6 3 11) fun x8 =>
      if x8 = 0 then (fl_LR_none_4 n v0 v1 v2 (v3 + 1) mem)
      else (if v2 = v1 then (some ((v3 + 1), mem))
        else (fl_LR_none_4 n v0 v1 (v2 + 1) (v3 + 1) mem)))
def f_LR_none (a0 : Nat) (v1 : Int32) (mem : mx_Mem) : Option (Int32 × mx_Mem) :=
    fl_LR_none_4  5000 (some a0) v1 0 0 mem
def fl_Mo_none_13  : Nat → Option Nat → Int32 → Int32 → Int32 → mx_Mem → Option (Int32 × mx_Mem)
  | 0, _, _, _, _, _ => none
  | n + 1, v0, v1, v2, v3, mem => Option.bind (mx_gi mem v0 4 9) fun x1 =>
    if x1 < v3 then (some ((-1), mem))
    else (Option.bind (mx_gr mem v0 4 20) fun x4 =>
      Option.bind (mx_agi mem x4 5 v3) fun x6 =>
      if x6 = 0 then (fl_Mo_none_13 n v0 v1 v2 (v3 + 1) mem)
      else (if v2 = v1 then (some (v3, mem))
        else (fl_Mo_none_13 n v0 v1 (v2 + 1) (v3 + 1) mem)))
def f_Mo_none (a0 : Nat) (v1 : Int32) (mem : mx_Mem) : Option (Int32 × mx_Mem) :=
    Option.bind (mx_p mem (some a0) 4 0 (.int 0)) fun m1 =>
    Option.bind (mx_c m1 (some a0) 4) fun a6 =>
    Option.bind (f_Mo_reckon a6  m1) fun q3 =>
    fl_Mo_none_13  5000 (some a0) v1 0 1 q3
def f_LR_acts (a0 : Nat) (mem : mx_Mem) : Option (Int32 × mx_Mem) :=
    Option.bind (mx_c mem (some a0) 0) fun a4 =>
    Option.bind (f_LR_countActs a4  mem) fun q1 =>
    some (q1.1, q1.2)
def f_Mo_acts (a0 : Nat) (mem : mx_Mem) : Option (Int32 × mx_Mem) :=
    Option.bind (mx_p mem (some a0) 4 0 (.int 0)) fun m1 =>
    Option.bind (mx_c m1 (some a0) 4) fun a6 =>
    Option.bind (f_Mo_actsNow a6  m1) fun q3 =>
    some (q3.1, q3.2)
end
section
set_option maxHeartbeats 4000000 in
set_option maxRecDepth 100000 in
theorem c_LR_init (l : Launch) (G : mx_G) (a0 : Nat) (mem : mx_Mem) (q : mx_Mem) (h : f_LR_init a0 mem = some q) : Met l y_LR_init (gq_w y_LR_init b_LR_init 1 none) { frames := 1, cells := 3, slots := 24, locals := 12 } (gq_P G [.ref a0] mem) (gq_Q G none q) 3 24 (mx_A G) := by
  refine Met.ofW (cc := b_LR_init) (maxL := 1) (ret := none) (by decide) rfl ?_
  intro p e s m args below meth c s₁ B hml hv
  obtain ⟨rfl, hb0, hM, hK, hN⟩ := hv
  have CX : gq_C p (headSpec (gq_w y_LR_init b_LR_init 1 none) { frames := 1, cells := 3, slots := 24, locals := 12 }).room s m _ meth c G b_LR_init 1 none R_LR 1 3 24 12 := ⟨B.exec, B.bytes, hml, B.returns, findClass_of_methodNamed B.named, fun w hw => atoms_spec (ws := gq_w y_LR_init b_LR_init 1 none) B.pre w (List.mem_cons_of_mem _ hw), B.notSynchronized, hK, hN, hb0, Nat.le_refl _, Nat.le_refl _, Nat.le_refl _, Nat.le_refl _⟩
  have hin : meth.name = "<init>" := (name_of_methodNamed B.named B.method).1
  obtain ⟨hx, hb, hml, hr, hown, hts, hlocks, hK, hN, hb0, hRf, hRc, hRs, hRl⟩ := id CX
  have hS : va_S (mx_A G) s.heap s.heap [] := va_S.rf
  have hl := lv_entry [.ref a0] (n := 1) (Nat.le_of_ble_eq_true rfl)
  rw [lg_entry_eq]
  generalize (lg_sl [.ref a0] ++ List.replicate (1 - (lg_sl [.ref a0]).length) Slot.unset).toArray = ls at hl ⊢
  have hl : lv_has ls 1 [(0, va_rf (some a0))] := hl
  unfold f_LR_init at h
  refine mx_aload_n hx hb d_LR_init_0 rfl (lv_at hl 0 rfl) ?_
  refine W.objInit hx hb hown (hts _ wd_0) (hts _ wd_1) (hts _ wd_2) rfl (by rw [hml]; exact hl.1) rfl d_LR_init_1 (Nat.le_trans (Nat.le_of_ble_eq_true rfl) hRf) (Nat.le_trans (Nat.le_of_ble_eq_true rfl) hRl) ?_
  refine W.eq (g2 := F0 m 4 ls []) rfl ?_
  refine mx_aload_n hx hb d_LR_init_4 rfl (lv_at hl 0 rfl) ?_
  refine lv_bipush (v := 12) hx hb d_LR_init_5 (by decide) ?_
  obtain ⟨m1, e2, h⟩ := mx_b h
  refine mx_newq (kd := 0) (N' := 12) hx hb hown (hts _ wd_3) (va_AO.use (hN _ nw_0)) hK hM hS hb0 rfl (by decide) (by decide) (by decide) e2 d_LR_init_7 (Nat.le_trans (Nat.le_of_ble_eq_true rfl) hRc) (Nat.le_trans (Nat.le_of_ble_eq_true rfl) hRs) (fun H hM hS => ?_)
  refine W.widen (k := 1) (n := 12) (by decide) (by decide) ?_
  obtain ⟨m3, e4, h⟩ := mx_b h
  refine mx_putF hx hb hts i_LR t_LR t_LR_ok n_LR hown hK hM hS e4 (ci := 0) (C := R_LR) (T := T_LR) (N := 5) rfl 0 (by decide) (hts _ wd_4) rfl hin rfl (ty := (.array (.object "LateRoutes$Line"))) (by decide +kernel) (mx_arr_nar _) (mx_arr_fit _) d_LR_init_10 (fun H locs hM hS => ?_)
  refine mx_aload_n hx hb d_LR_init_13 rfl (lv_at hl 0 rfl) ?_
  refine lv_bipush (v := 6) hx hb d_LR_init_14 (by decide) ?_
  obtain ⟨m5, e6, h⟩ := mx_b h
  refine mx_newq (kd := 1) (N' := 6) hx hb hown (hts _ wd_5) (va_AO.use (hN _ nw_1)) hK hM hS hb0 rfl (by decide) (by decide) (by decide) e6 d_LR_init_16 (Nat.le_trans (Nat.le_of_ble_eq_true rfl) hRc) (Nat.le_trans (Nat.le_of_ble_eq_true rfl) hRs) (fun H hM hS => ?_)
  refine W.widen (k := 2) (n := 18) (by decide) (by decide) ?_
  obtain ⟨m7, e8, h⟩ := mx_b h
  refine mx_putF hx hb hts i_LR t_LR t_LR_ok n_LR hown hK hM hS e8 (ci := 0) (C := R_LR) (T := T_LR) (N := 5) rfl 2 (by decide) (hts _ wd_6) rfl hin rfl (ty := (.array (.object "LateRoutes$Load"))) (by decide +kernel) (mx_arr_nar _) (mx_arr_fit _) d_LR_init_19 (fun H locs hM hS => ?_)
  refine mx_aload_n hx hb d_LR_init_22 rfl (lv_at hl 0 rfl) ?_
  refine lv_bipush (v := 6) hx hb d_LR_init_23 (by decide) ?_
  obtain ⟨m9, e10, h⟩ := mx_b h
  refine mx_newq (kd := 1) (N' := 6) hx hb hown (hts _ wd_5) (va_AO.use (hN _ nw_1)) hK hM hS hb0 rfl (by decide) (by decide) (by decide) e10 d_LR_init_25 (Nat.le_trans (Nat.le_of_ble_eq_true rfl) hRc) (Nat.le_trans (Nat.le_of_ble_eq_true rfl) hRs) (fun H hM hS => ?_)
  refine W.widen (k := 3) (n := 24) (by decide) (by decide) ?_
  obtain ⟨m11, e12, h⟩ := mx_b h
  refine mx_putF hx hb hts i_LR t_LR t_LR_ok n_LR hown hK hM hS e12 (ci := 0) (C := R_LR) (T := T_LR) (N := 5) rfl 3 (by decide) (hts _ wd_7) rfl hin rfl (ty := (.array (.object "LateRoutes$Load"))) (by decide +kernel) (mx_arr_nar _) (mx_arr_fit _) d_LR_init_28 (fun H locs hM hS => ?_)
  refine mx_aload_n hx hb d_LR_init_31 rfl (lv_at hl 0 rfl) ?_
  refine lv_iconst (v := 0) hx hb d_LR_init_32 (by decide) ?_
  obtain ⟨m13, e14, h⟩ := mx_b h
  refine mx_put hx hb hts i_LR t_LR t_LR_ok n_LR hown hK hM hS e14 (ci := 0) (C := R_LR) (T := T_LR) (N := 5) rfl 1 (by decide) (hts _ wd_8) rfl (ty := .int) (by decide +kernel) rfl rfl d_LR_init_33 (fun H locs hM hS => ?_)
  refine mx_aload_n hx hb d_LR_init_36 rfl (lv_at hl 0 rfl) ?_
  refine lv_iconst (v := 0) hx hb d_LR_init_37 (by decide) ?_
  obtain ⟨m15, e16, h⟩ := mx_b h
  refine mx_put hx hb hts i_LR t_LR t_LR_ok n_LR hown hK hM hS e16 (ci := 0) (C := R_LR) (T := T_LR) (N := 5) rfl 4 (by decide) (hts _ wd_9) rfl (ty := .int) (by decide +kernel) rfl rfl d_LR_init_38 (fun H locs hM hS => ?_)
  cases h
  exact W.vret hx hb hr (fun t ht hW => ⟨⟨rfl, by rw [ht]; exact hM⟩, hS.F ht⟩) hS.2.2 d_LR_init_41
set_option maxHeartbeats 4000000 in
set_option maxRecDepth 100000 in
theorem c_Mo_init (l : Launch) (G : mx_G) (a0 : Nat) (mem : mx_Mem) (q : mx_Mem) (h : f_Mo_init a0 mem = some q) : Met l y_Mo_init (gq_w y_Mo_init b_Mo_init 1 none) { frames := 1, cells := 20, slots := 245, locals := 12 } (gq_P G [.ref a0] mem) (gq_Q G none q) 20 245 (mx_A G) := by
  refine Met.ofW (cc := b_Mo_init) (maxL := 1) (ret := none) (by decide) rfl ?_
  intro p e s m args below meth c s₁ B hml hv
  obtain ⟨rfl, hb0, hM, hK, hN⟩ := hv
  have CX : gq_C p (headSpec (gq_w y_Mo_init b_Mo_init 1 none) { frames := 1, cells := 20, slots := 245, locals := 12 }).room s m _ meth c G b_Mo_init 1 none R_Mo 1 20 245 12 := ⟨B.exec, B.bytes, hml, B.returns, findClass_of_methodNamed B.named, fun w hw => atoms_spec (ws := gq_w y_Mo_init b_Mo_init 1 none) B.pre w (List.mem_cons_of_mem _ hw), B.notSynchronized, hK, hN, hb0, Nat.le_refl _, Nat.le_refl _, Nat.le_refl _, Nat.le_refl _⟩
  have hin : meth.name = "<init>" := (name_of_methodNamed B.named B.method).1
  obtain ⟨hx, hb, hml, hr, hown, hts, hlocks, hK, hN, hb0, hRf, hRc, hRs, hRl⟩ := id CX
  have hS : va_S (mx_A G) s.heap s.heap [] := va_S.rf
  have hl := lv_entry [.ref a0] (n := 1) (Nat.le_of_ble_eq_true rfl)
  rw [lg_entry_eq]
  generalize (lg_sl [.ref a0] ++ List.replicate (1 - (lg_sl [.ref a0]).length) Slot.unset).toArray = ls at hl ⊢
  have hl : lv_has ls 1 [(0, va_rf (some a0))] := hl
  unfold f_Mo_init at h
  refine mx_aload_n hx hb d_Mo_init_0 rfl (lv_at hl 0 rfl) ?_
  refine W.objInit hx hb hown (hts _ wd_10) (hts _ wd_1) (hts _ wd_2) rfl (by rw [hml]; exact hl.1) rfl d_Mo_init_1 (Nat.le_trans (Nat.le_of_ble_eq_true rfl) hRf) (Nat.le_trans (Nat.le_of_ble_eq_true rfl) hRl) ?_
  refine W.eq (g2 := F0 m 4 ls []) rfl ?_
  refine mx_aload_n hx hb d_Mo_init_4 rfl (lv_at hl 0 rfl) ?_
  refine lv_bipush (v := 13) hx hb d_Mo_init_5 (by decide) ?_
  obtain ⟨m1, e2, h⟩ := mx_b h
  refine mx_newa (kd := 3) (atype := .int) (ty := .int) (N' := 13) (a0 := (13, .inl (fun _ => 0))) hx hb (hts _ wd_11) rfl hK hM hS hb0 rfl (fun _ h9 => h9) (fun _ => rfl) (by decide) (by decide) (by decide) e2 d_Mo_init_7 (Nat.le_trans (Nat.le_of_ble_eq_true rfl) hRc) (Nat.le_trans (Nat.le_of_ble_eq_true rfl) hRs) (fun H hM hS => ?_)
  refine W.widen (k := 1) (n := 13) (by decide) (by decide) ?_
  obtain ⟨m3, e4, h⟩ := mx_b h
  refine mx_putF hx hb hts i_Mo t_Mo t_Mo_ok n_Mo hown hK hM hS e4 (ci := 4) (C := R_Mo) (T := T_Mo) (N := 23) rfl 2 (by decide) (hts _ wd_12) rfl hin rfl (ty := (.array .int)) (by decide +kernel) (mx_arr_nar _) (mx_arr_fit _) d_Mo_init_9 (fun H locs hM hS => ?_)
  refine mx_aload_n hx hb d_Mo_init_12 rfl (lv_at hl 0 rfl) ?_
  refine lv_bipush (v := 13) hx hb d_Mo_init_13 (by decide) ?_
  obtain ⟨m5, e6, h⟩ := mx_b h
  refine mx_newa (kd := 3) (atype := .int) (ty := .int) (N' := 13) (a0 := (13, .inl (fun _ => 0))) hx hb (hts _ wd_11) rfl hK hM hS hb0 rfl (fun _ h9 => h9) (fun _ => rfl) (by decide) (by decide) (by decide) e6 d_Mo_init_15 (Nat.le_trans (Nat.le_of_ble_eq_true rfl) hRc) (Nat.le_trans (Nat.le_of_ble_eq_true rfl) hRs) (fun H hM hS => ?_)
  refine W.widen (k := 2) (n := 26) (by decide) (by decide) ?_
  obtain ⟨m7, e8, h⟩ := mx_b h
  refine mx_putF hx hb hts i_Mo t_Mo t_Mo_ok n_Mo hown hK hM hS e8 (ci := 4) (C := R_Mo) (T := T_Mo) (N := 23) rfl 3 (by decide) (hts _ wd_13) rfl hin rfl (ty := (.array .int)) (by decide +kernel) (mx_arr_nar _) (mx_arr_fit _) d_Mo_init_17 (fun H locs hM hS => ?_)
  refine mx_aload_n hx hb d_Mo_init_20 rfl (lv_at hl 0 rfl) ?_
  refine lv_bipush (v := 13) hx hb d_Mo_init_21 (by decide) ?_
  obtain ⟨m9, e10, h⟩ := mx_b h
  refine mx_newa (kd := 4) (atype := .long) (ty := .long) (N' := 13) (a0 := (13, .inr (.inl (fun _ => 0)))) hx hb (hts _ wd_14) rfl hK hM hS hb0 rfl (fun _ h9 => h9) (fun _ => rfl) (by decide) (by decide) (by decide) e10 d_Mo_init_23 (Nat.le_trans (Nat.le_of_ble_eq_true rfl) hRc) (Nat.le_trans (Nat.le_of_ble_eq_true rfl) hRs) (fun H hM hS => ?_)
  refine W.widen (k := 3) (n := 39) (by decide) (by decide) ?_
  obtain ⟨m11, e12, h⟩ := mx_b h
  refine mx_putF hx hb hts i_Mo t_Mo t_Mo_ok n_Mo hown hK hM hS e12 (ci := 4) (C := R_Mo) (T := T_Mo) (N := 23) rfl 4 (by decide) (hts _ wd_15) rfl hin rfl (ty := (.array .long)) (by decide +kernel) (mx_arr_nar _) (mx_arr_fit _) d_Mo_init_25 (fun H locs hM hS => ?_)
  refine mx_aload_n hx hb d_Mo_init_28 rfl (lv_at hl 0 rfl) ?_
  refine lv_bipush (v := 13) hx hb d_Mo_init_29 (by decide) ?_
  obtain ⟨m13, e14, h⟩ := mx_b h
  refine mx_newa (kd := 4) (atype := .long) (ty := .long) (N' := 13) (a0 := (13, .inr (.inl (fun _ => 0)))) hx hb (hts _ wd_14) rfl hK hM hS hb0 rfl (fun _ h9 => h9) (fun _ => rfl) (by decide) (by decide) (by decide) e14 d_Mo_init_31 (Nat.le_trans (Nat.le_of_ble_eq_true rfl) hRc) (Nat.le_trans (Nat.le_of_ble_eq_true rfl) hRs) (fun H hM hS => ?_)
  refine W.widen (k := 4) (n := 52) (by decide) (by decide) ?_
  obtain ⟨m15, e16, h⟩ := mx_b h
  refine mx_putF hx hb hts i_Mo t_Mo t_Mo_ok n_Mo hown hK hM hS e16 (ci := 4) (C := R_Mo) (T := T_Mo) (N := 23) rfl 5 (by decide) (hts _ wd_16) rfl hin rfl (ty := (.array .long)) (by decide +kernel) (mx_arr_nar _) (mx_arr_fit _) d_Mo_init_33 (fun H locs hM hS => ?_)
  refine mx_aload_n hx hb d_Mo_init_36 rfl (lv_at hl 0 rfl) ?_
  refine lv_bipush (v := 13) hx hb d_Mo_init_37 (by decide) ?_
  obtain ⟨m17, e18, h⟩ := mx_b h
  refine mx_newa (kd := 4) (atype := .long) (ty := .long) (N' := 13) (a0 := (13, .inr (.inl (fun _ => 0)))) hx hb (hts _ wd_14) rfl hK hM hS hb0 rfl (fun _ h9 => h9) (fun _ => rfl) (by decide) (by decide) (by decide) e18 d_Mo_init_39 (Nat.le_trans (Nat.le_of_ble_eq_true rfl) hRc) (Nat.le_trans (Nat.le_of_ble_eq_true rfl) hRs) (fun H hM hS => ?_)
  refine W.widen (k := 5) (n := 65) (by decide) (by decide) ?_
  obtain ⟨m19, e20, h⟩ := mx_b h
  refine mx_putF hx hb hts i_Mo t_Mo t_Mo_ok n_Mo hown hK hM hS e20 (ci := 4) (C := R_Mo) (T := T_Mo) (N := 23) rfl 6 (by decide) (hts _ wd_17) rfl hin rfl (ty := (.array .long)) (by decide +kernel) (mx_arr_nar _) (mx_arr_fit _) d_Mo_init_41 (fun H locs hM hS => ?_)
  refine mx_aload_n hx hb d_Mo_init_44 rfl (lv_at hl 0 rfl) ?_
  refine lv_bipush (v := 13) hx hb d_Mo_init_45 (by decide) ?_
  obtain ⟨m21, e22, h⟩ := mx_b h
  refine mx_newa (kd := 4) (atype := .long) (ty := .long) (N' := 13) (a0 := (13, .inr (.inl (fun _ => 0)))) hx hb (hts _ wd_14) rfl hK hM hS hb0 rfl (fun _ h9 => h9) (fun _ => rfl) (by decide) (by decide) (by decide) e22 d_Mo_init_47 (Nat.le_trans (Nat.le_of_ble_eq_true rfl) hRc) (Nat.le_trans (Nat.le_of_ble_eq_true rfl) hRs) (fun H hM hS => ?_)
  refine W.widen (k := 6) (n := 78) (by decide) (by decide) ?_
  obtain ⟨m23, e24, h⟩ := mx_b h
  refine mx_putF hx hb hts i_Mo t_Mo t_Mo_ok n_Mo hown hK hM hS e24 (ci := 4) (C := R_Mo) (T := T_Mo) (N := 23) rfl 7 (by decide) (hts _ wd_18) rfl hin rfl (ty := (.array .long)) (by decide +kernel) (mx_arr_nar _) (mx_arr_fit _) d_Mo_init_49 (fun H locs hM hS => ?_)
  refine mx_aload_n hx hb d_Mo_init_52 rfl (lv_at hl 0 rfl) ?_
  refine lv_bipush (v := 13) hx hb d_Mo_init_53 (by decide) ?_
  obtain ⟨m25, e26, h⟩ := mx_b h
  refine mx_newa (kd := 4) (atype := .long) (ty := .long) (N' := 13) (a0 := (13, .inr (.inl (fun _ => 0)))) hx hb (hts _ wd_14) rfl hK hM hS hb0 rfl (fun _ h9 => h9) (fun _ => rfl) (by decide) (by decide) (by decide) e26 d_Mo_init_55 (Nat.le_trans (Nat.le_of_ble_eq_true rfl) hRc) (Nat.le_trans (Nat.le_of_ble_eq_true rfl) hRs) (fun H hM hS => ?_)
  refine W.widen (k := 7) (n := 91) (by decide) (by decide) ?_
  obtain ⟨m27, e28, h⟩ := mx_b h
  refine mx_putF hx hb hts i_Mo t_Mo t_Mo_ok n_Mo hown hK hM hS e28 (ci := 4) (C := R_Mo) (T := T_Mo) (N := 23) rfl 8 (by decide) (hts _ wd_19) rfl hin rfl (ty := (.array .long)) (by decide +kernel) (mx_arr_nar _) (mx_arr_fit _) d_Mo_init_57 (fun H locs hM hS => ?_)
  refine mx_aload_n hx hb d_Mo_init_60 rfl (lv_at hl 0 rfl) ?_
  refine lv_bipush (v := 7) hx hb d_Mo_init_61 (by decide) ?_
  obtain ⟨m29, e30, h⟩ := mx_b h
  refine mx_newa (kd := 3) (atype := .int) (ty := .int) (N' := 7) (a0 := (7, .inl (fun _ => 0))) hx hb (hts _ wd_11) rfl hK hM hS hb0 rfl (fun _ h9 => h9) (fun _ => rfl) (by decide) (by decide) (by decide) e30 d_Mo_init_63 (Nat.le_trans (Nat.le_of_ble_eq_true rfl) hRc) (Nat.le_trans (Nat.le_of_ble_eq_true rfl) hRs) (fun H hM hS => ?_)
  refine W.widen (k := 8) (n := 98) (by decide) (by decide) ?_
  obtain ⟨m31, e32, h⟩ := mx_b h
  refine mx_putF hx hb hts i_Mo t_Mo t_Mo_ok n_Mo hown hK hM hS e32 (ci := 4) (C := R_Mo) (T := T_Mo) (N := 23) rfl 10 (by decide) (hts _ wd_20) rfl hin rfl (ty := (.array .int)) (by decide +kernel) (mx_arr_nar _) (mx_arr_fit _) d_Mo_init_65 (fun H locs hM hS => ?_)
  refine mx_aload_n hx hb d_Mo_init_68 rfl (lv_at hl 0 rfl) ?_
  refine lv_bipush (v := 7) hx hb d_Mo_init_69 (by decide) ?_
  obtain ⟨m33, e34, h⟩ := mx_b h
  refine mx_newa (kd := 3) (atype := .int) (ty := .int) (N' := 7) (a0 := (7, .inl (fun _ => 0))) hx hb (hts _ wd_11) rfl hK hM hS hb0 rfl (fun _ h9 => h9) (fun _ => rfl) (by decide) (by decide) (by decide) e34 d_Mo_init_71 (Nat.le_trans (Nat.le_of_ble_eq_true rfl) hRc) (Nat.le_trans (Nat.le_of_ble_eq_true rfl) hRs) (fun H hM hS => ?_)
  refine W.widen (k := 9) (n := 105) (by decide) (by decide) ?_
  obtain ⟨m35, e36, h⟩ := mx_b h
  refine mx_putF hx hb hts i_Mo t_Mo t_Mo_ok n_Mo hown hK hM hS e36 (ci := 4) (C := R_Mo) (T := T_Mo) (N := 23) rfl 11 (by decide) (hts _ wd_21) rfl hin rfl (ty := (.array .int)) (by decide +kernel) (mx_arr_nar _) (mx_arr_fit _) d_Mo_init_73 (fun H locs hM hS => ?_)
  refine mx_aload_n hx hb d_Mo_init_76 rfl (lv_at hl 0 rfl) ?_
  refine lv_bipush (v := 7) hx hb d_Mo_init_77 (by decide) ?_
  obtain ⟨m37, e38, h⟩ := mx_b h
  refine mx_newa (kd := 4) (atype := .long) (ty := .long) (N' := 7) (a0 := (7, .inr (.inl (fun _ => 0)))) hx hb (hts _ wd_14) rfl hK hM hS hb0 rfl (fun _ h9 => h9) (fun _ => rfl) (by decide) (by decide) (by decide) e38 d_Mo_init_79 (Nat.le_trans (Nat.le_of_ble_eq_true rfl) hRc) (Nat.le_trans (Nat.le_of_ble_eq_true rfl) hRs) (fun H hM hS => ?_)
  refine W.widen (k := 10) (n := 112) (by decide) (by decide) ?_
  obtain ⟨m39, e40, h⟩ := mx_b h
  refine mx_putF hx hb hts i_Mo t_Mo t_Mo_ok n_Mo hown hK hM hS e40 (ci := 4) (C := R_Mo) (T := T_Mo) (N := 23) rfl 12 (by decide) (hts _ wd_22) rfl hin rfl (ty := (.array .long)) (by decide +kernel) (mx_arr_nar _) (mx_arr_fit _) d_Mo_init_81 (fun H locs hM hS => ?_)
  refine mx_aload_n hx hb d_Mo_init_84 rfl (lv_at hl 0 rfl) ?_
  refine lv_bipush (v := 7) hx hb d_Mo_init_85 (by decide) ?_
  obtain ⟨m41, e42, h⟩ := mx_b h
  refine mx_newa (kd := 3) (atype := .int) (ty := .int) (N' := 7) (a0 := (7, .inl (fun _ => 0))) hx hb (hts _ wd_11) rfl hK hM hS hb0 rfl (fun _ h9 => h9) (fun _ => rfl) (by decide) (by decide) (by decide) e42 d_Mo_init_87 (Nat.le_trans (Nat.le_of_ble_eq_true rfl) hRc) (Nat.le_trans (Nat.le_of_ble_eq_true rfl) hRs) (fun H hM hS => ?_)
  refine W.widen (k := 11) (n := 119) (by decide) (by decide) ?_
  obtain ⟨m43, e44, h⟩ := mx_b h
  refine mx_putF hx hb hts i_Mo t_Mo t_Mo_ok n_Mo hown hK hM hS e44 (ci := 4) (C := R_Mo) (T := T_Mo) (N := 23) rfl 13 (by decide) (hts _ wd_23) rfl hin rfl (ty := (.array .int)) (by decide +kernel) (mx_arr_nar _) (mx_arr_fit _) d_Mo_init_89 (fun H locs hM hS => ?_)
  refine mx_aload_n hx hb d_Mo_init_92 rfl (lv_at hl 0 rfl) ?_
  refine lv_bipush (v := 7) hx hb d_Mo_init_93 (by decide) ?_
  obtain ⟨m45, e46, h⟩ := mx_b h
  refine mx_newa (kd := 3) (atype := .int) (ty := .int) (N' := 7) (a0 := (7, .inl (fun _ => 0))) hx hb (hts _ wd_11) rfl hK hM hS hb0 rfl (fun _ h9 => h9) (fun _ => rfl) (by decide) (by decide) (by decide) e46 d_Mo_init_95 (Nat.le_trans (Nat.le_of_ble_eq_true rfl) hRc) (Nat.le_trans (Nat.le_of_ble_eq_true rfl) hRs) (fun H hM hS => ?_)
  refine W.widen (k := 12) (n := 126) (by decide) (by decide) ?_
  obtain ⟨m47, e48, h⟩ := mx_b h
  refine mx_putF hx hb hts i_Mo t_Mo t_Mo_ok n_Mo hown hK hM hS e48 (ci := 4) (C := R_Mo) (T := T_Mo) (N := 23) rfl 14 (by decide) (hts _ wd_24) rfl hin rfl (ty := (.array .int)) (by decide +kernel) (mx_arr_nar _) (mx_arr_fit _) d_Mo_init_97 (fun H locs hM hS => ?_)
  refine mx_aload_n hx hb d_Mo_init_100 rfl (lv_at hl 0 rfl) ?_
  refine lv_bipush (v := 7) hx hb d_Mo_init_101 (by decide) ?_
  obtain ⟨m49, e50, h⟩ := mx_b h
  refine mx_newa (kd := 3) (atype := .int) (ty := .int) (N' := 7) (a0 := (7, .inl (fun _ => 0))) hx hb (hts _ wd_11) rfl hK hM hS hb0 rfl (fun _ h9 => h9) (fun _ => rfl) (by decide) (by decide) (by decide) e50 d_Mo_init_103 (Nat.le_trans (Nat.le_of_ble_eq_true rfl) hRc) (Nat.le_trans (Nat.le_of_ble_eq_true rfl) hRs) (fun H hM hS => ?_)
  refine W.widen (k := 13) (n := 133) (by decide) (by decide) ?_
  obtain ⟨m51, e52, h⟩ := mx_b h
  refine mx_putF hx hb hts i_Mo t_Mo t_Mo_ok n_Mo hown hK hM hS e52 (ci := 4) (C := R_Mo) (T := T_Mo) (N := 23) rfl 15 (by decide) (hts _ wd_25) rfl hin rfl (ty := (.array .int)) (by decide +kernel) (mx_arr_nar _) (mx_arr_fit _) d_Mo_init_105 (fun H locs hM hS => ?_)
  refine mx_aload_n hx hb d_Mo_init_108 rfl (lv_at hl 0 rfl) ?_
  refine lv_bipush (v := 28) hx hb d_Mo_init_109 (by decide) ?_
  obtain ⟨m53, e54, h⟩ := mx_b h
  refine mx_newa (kd := 3) (atype := .int) (ty := .int) (N' := 28) (a0 := (28, .inl (fun _ => 0))) hx hb (hts _ wd_11) rfl hK hM hS hb0 rfl (fun _ h9 => h9) (fun _ => rfl) (by decide) (by decide) (by decide) e54 d_Mo_init_111 (Nat.le_trans (Nat.le_of_ble_eq_true rfl) hRc) (Nat.le_trans (Nat.le_of_ble_eq_true rfl) hRs) (fun H hM hS => ?_)
  refine W.widen (k := 14) (n := 161) (by decide) (by decide) ?_
  obtain ⟨m55, e56, h⟩ := mx_b h
  refine mx_putF hx hb hts i_Mo t_Mo t_Mo_ok n_Mo hown hK hM hS e56 (ci := 4) (C := R_Mo) (T := T_Mo) (N := 23) rfl 16 (by decide) (hts _ wd_26) rfl hin rfl (ty := (.array .int)) (by decide +kernel) (mx_arr_nar _) (mx_arr_fit _) d_Mo_init_113 (fun H locs hM hS => ?_)
  refine mx_aload_n hx hb d_Mo_init_116 rfl (lv_at hl 0 rfl) ?_
  refine lv_bipush (v := 28) hx hb d_Mo_init_117 (by decide) ?_
  obtain ⟨m57, e58, h⟩ := mx_b h
  refine mx_newa (kd := 3) (atype := .int) (ty := .int) (N' := 28) (a0 := (28, .inl (fun _ => 0))) hx hb (hts _ wd_11) rfl hK hM hS hb0 rfl (fun _ h9 => h9) (fun _ => rfl) (by decide) (by decide) (by decide) e58 d_Mo_init_119 (Nat.le_trans (Nat.le_of_ble_eq_true rfl) hRc) (Nat.le_trans (Nat.le_of_ble_eq_true rfl) hRs) (fun H hM hS => ?_)
  refine W.widen (k := 15) (n := 189) (by decide) (by decide) ?_
  obtain ⟨m59, e60, h⟩ := mx_b h
  refine mx_putF hx hb hts i_Mo t_Mo t_Mo_ok n_Mo hown hK hM hS e60 (ci := 4) (C := R_Mo) (T := T_Mo) (N := 23) rfl 17 (by decide) (hts _ wd_27) rfl hin rfl (ty := (.array .int)) (by decide +kernel) (mx_arr_nar _) (mx_arr_fit _) d_Mo_init_121 (fun H locs hM hS => ?_)
  refine mx_aload_n hx hb d_Mo_init_124 rfl (lv_at hl 0 rfl) ?_
  refine lv_bipush (v := 28) hx hb d_Mo_init_125 (by decide) ?_
  obtain ⟨m61, e62, h⟩ := mx_b h
  refine mx_newa (kd := 4) (atype := .long) (ty := .long) (N' := 28) (a0 := (28, .inr (.inl (fun _ => 0)))) hx hb (hts _ wd_14) rfl hK hM hS hb0 rfl (fun _ h9 => h9) (fun _ => rfl) (by decide) (by decide) (by decide) e62 d_Mo_init_127 (Nat.le_trans (Nat.le_of_ble_eq_true rfl) hRc) (Nat.le_trans (Nat.le_of_ble_eq_true rfl) hRs) (fun H hM hS => ?_)
  refine W.widen (k := 16) (n := 217) (by decide) (by decide) ?_
  obtain ⟨m63, e64, h⟩ := mx_b h
  refine mx_putF hx hb hts i_Mo t_Mo t_Mo_ok n_Mo hown hK hM hS e64 (ci := 4) (C := R_Mo) (T := T_Mo) (N := 23) rfl 18 (by decide) (hts _ wd_28) rfl hin rfl (ty := (.array .long)) (by decide +kernel) (mx_arr_nar _) (mx_arr_fit _) d_Mo_init_129 (fun H locs hM hS => ?_)
  refine mx_aload_n hx hb d_Mo_init_132 rfl (lv_at hl 0 rfl) ?_
  refine lv_bipush (v := 7) hx hb d_Mo_init_133 (by decide) ?_
  obtain ⟨m65, e66, h⟩ := mx_b h
  refine mx_newa (kd := 4) (atype := .long) (ty := .long) (N' := 7) (a0 := (7, .inr (.inl (fun _ => 0)))) hx hb (hts _ wd_14) rfl hK hM hS hb0 rfl (fun _ h9 => h9) (fun _ => rfl) (by decide) (by decide) (by decide) e66 d_Mo_init_135 (Nat.le_trans (Nat.le_of_ble_eq_true rfl) hRc) (Nat.le_trans (Nat.le_of_ble_eq_true rfl) hRs) (fun H hM hS => ?_)
  refine W.widen (k := 17) (n := 224) (by decide) (by decide) ?_
  obtain ⟨m67, e68, h⟩ := mx_b h
  refine mx_putF hx hb hts i_Mo t_Mo t_Mo_ok n_Mo hown hK hM hS e68 (ci := 4) (C := R_Mo) (T := T_Mo) (N := 23) rfl 19 (by decide) (hts _ wd_29) rfl hin rfl (ty := (.array .long)) (by decide +kernel) (mx_arr_nar _) (mx_arr_fit _) d_Mo_init_137 (fun H locs hM hS => ?_)
  refine mx_aload_n hx hb d_Mo_init_140 rfl (lv_at hl 0 rfl) ?_
  refine lv_bipush (v := 7) hx hb d_Mo_init_141 (by decide) ?_
  obtain ⟨m69, e70, h⟩ := mx_b h
  refine mx_newa (kd := 5) (atype := .boolean) (ty := .boolean) (N' := 7) (a0 := (7, .inl (fun _ => 0))) hx hb (hts _ wd_30) rfl hK hM hS hb0 rfl (fun _ h9 => h9) (fun _ => rfl) (by decide) (by decide) (by decide) e70 d_Mo_init_143 (Nat.le_trans (Nat.le_of_ble_eq_true rfl) hRc) (Nat.le_trans (Nat.le_of_ble_eq_true rfl) hRs) (fun H hM hS => ?_)
  refine W.widen (k := 18) (n := 231) (by decide) (by decide) ?_
  obtain ⟨m71, e72, h⟩ := mx_b h
  refine mx_putF hx hb hts i_Mo t_Mo t_Mo_ok n_Mo hown hK hM hS e72 (ci := 4) (C := R_Mo) (T := T_Mo) (N := 23) rfl 20 (by decide) (hts _ wd_31) rfl hin rfl (ty := (.array .boolean)) (by decide +kernel) (mx_arr_nar _) (mx_arr_fit _) d_Mo_init_145 (fun H locs hM hS => ?_)
  refine mx_aload_n hx hb d_Mo_init_148 rfl (lv_at hl 0 rfl) ?_
  refine lv_bipush (v := 7) hx hb d_Mo_init_149 (by decide) ?_
  obtain ⟨m73, e74, h⟩ := mx_b h
  refine mx_newa (kd := 3) (atype := .int) (ty := .int) (N' := 7) (a0 := (7, .inl (fun _ => 0))) hx hb (hts _ wd_11) rfl hK hM hS hb0 rfl (fun _ h9 => h9) (fun _ => rfl) (by decide) (by decide) (by decide) e74 d_Mo_init_151 (Nat.le_trans (Nat.le_of_ble_eq_true rfl) hRc) (Nat.le_trans (Nat.le_of_ble_eq_true rfl) hRs) (fun H hM hS => ?_)
  refine W.widen (k := 19) (n := 238) (by decide) (by decide) ?_
  obtain ⟨m75, e76, h⟩ := mx_b h
  refine mx_putF hx hb hts i_Mo t_Mo t_Mo_ok n_Mo hown hK hM hS e76 (ci := 4) (C := R_Mo) (T := T_Mo) (N := 23) rfl 21 (by decide) (hts _ wd_32) rfl hin rfl (ty := (.array .int)) (by decide +kernel) (mx_arr_nar _) (mx_arr_fit _) d_Mo_init_153 (fun H locs hM hS => ?_)
  refine mx_aload_n hx hb d_Mo_init_156 rfl (lv_at hl 0 rfl) ?_
  refine lv_bipush (v := 7) hx hb d_Mo_init_157 (by decide) ?_
  obtain ⟨m77, e78, h⟩ := mx_b h
  refine mx_newa (kd := 4) (atype := .long) (ty := .long) (N' := 7) (a0 := (7, .inr (.inl (fun _ => 0)))) hx hb (hts _ wd_14) rfl hK hM hS hb0 rfl (fun _ h9 => h9) (fun _ => rfl) (by decide) (by decide) (by decide) e78 d_Mo_init_159 (Nat.le_trans (Nat.le_of_ble_eq_true rfl) hRc) (Nat.le_trans (Nat.le_of_ble_eq_true rfl) hRs) (fun H hM hS => ?_)
  refine W.widen (k := 20) (n := 245) (by decide) (by decide) ?_
  obtain ⟨m79, e80, h⟩ := mx_b h
  refine mx_putF hx hb hts i_Mo t_Mo t_Mo_ok n_Mo hown hK hM hS e80 (ci := 4) (C := R_Mo) (T := T_Mo) (N := 23) rfl 22 (by decide) (hts _ wd_33) rfl hin rfl (ty := (.array .long)) (by decide +kernel) (mx_arr_nar _) (mx_arr_fit _) d_Mo_init_161 (fun H locs hM hS => ?_)
  cases h
  exact W.vret hx hb hr (fun t ht hW => ⟨⟨rfl, by rw [ht]; exact hM⟩, hS.F ht⟩) hS.2.2 d_Mo_init_164
set_option maxHeartbeats 4000000 in
set_option maxRecDepth 100000 in
theorem c_LR_isWithin (l : Launch) (G : mx_G) (v0 : Int64) (v2 : Int64) (v4 : Int64) (mem : mx_Mem) (q : Int32 × mx_Mem) (h : f_LR_isWithin v0 v2 v4 mem = some q) : Met l y_LR_isWithin (gq_w y_LR_isWithin b_LR_isWithin 6 (some .boolean)) { frames := 0, cells := 0, slots := 0, locals := 0 } (gq_P G [.long v0, .long v2, .long v4] mem) (gq_Q G (some (.int q.1)) q.2) 0 0 (mx_A G) := by
  refine Met.ofW (cc := b_LR_isWithin) (maxL := 6) (ret := (some .boolean)) (by decide) rfl ?_
  intro p e s m args below meth c s₁ B hml hv
  obtain ⟨rfl, hb0, hM, hK, hN⟩ := hv
  have CX : gq_C p (headSpec (gq_w y_LR_isWithin b_LR_isWithin 6 (some .boolean)) { frames := 0, cells := 0, slots := 0, locals := 0 }).room s m _ meth c G b_LR_isWithin 6 (some .boolean) R_LR 0 0 0 0 := ⟨B.exec, B.bytes, hml, B.returns, findClass_of_methodNamed B.named, fun w hw => atoms_spec (ws := gq_w y_LR_isWithin b_LR_isWithin 6 (some .boolean)) B.pre w (List.mem_cons_of_mem _ hw), B.notSynchronized, hK, hN, hb0, Nat.le_refl _, Nat.le_refl _, Nat.le_refl _, Nat.le_refl _⟩
  obtain ⟨hx, hb, hml, hr, hown, hts, hlocks, hK, hN, hb0, hRf, hRc, hRs, hRl⟩ := id CX
  have hS : va_S (mx_A G) s.heap s.heap [] := va_S.rf
  have hl := lv_entry [.long v0, .long v2, .long v4] (n := 6) (Nat.le_of_ble_eq_true rfl)
  rw [lg_entry_eq]
  generalize (lg_sl [.long v0, .long v2, .long v4] ++ List.replicate (6 - (lg_sl [.long v0, .long v2, .long v4]).length) Slot.unset).toArray = ls at hl ⊢
  have hl : lv_has ls 6 [(0, .long v0), (2, .long v2), (4, .long v4)] := hl
  unfold f_LR_isWithin at h
  refine lv_lload_n hx hb d_LR_isWithin_0 rfl (lv_at hl 0 rfl) ?_
  refine lv_lload_n hx hb d_LR_isWithin_1 rfl (lv_at hl 1 rfl) ?_
  refine mx_lcmp_lt (tgt := 17) hx hb d_LR_isWithin_2 d_LR_isWithin_3 (by decide) (fun c1 => ?_) (fun c1 => ?_)
  · rw [if_pos c1] at h
    refine lv_iconst (v := 0) hx hb d_LR_isWithin_17 (by decide) ?_
    cases h
    exact W.zret hx hb hr rfl (fun t ht hW => ⟨⟨rfl, by rw [ht]; exact hM⟩, hS.F ht⟩) hS.2.2 d_LR_isWithin_18
  · rw [if_neg c1] at h
    refine lv_lload_n hx hb d_LR_isWithin_6 rfl (lv_at hl 0 rfl) ?_
    refine lv_lload hx hb d_LR_isWithin_7 (lv_at hl 2 rfl) ?_
    refine mx_lcmp_gt (tgt := 17) hx hb d_LR_isWithin_9 d_LR_isWithin_10 (by decide) (fun c2 => ?_) (fun c2 => ?_)
    · rw [if_pos c2] at h
      refine lv_iconst (v := 0) hx hb d_LR_isWithin_17 (by decide) ?_
      cases h
      exact W.zret hx hb hr rfl (fun t ht hW => ⟨⟨rfl, by rw [ht]; exact hM⟩, hS.F ht⟩) hS.2.2 d_LR_isWithin_18
    · rw [if_neg c2] at h
      refine lv_iconst (v := 1) hx hb d_LR_isWithin_13 (by decide) ?_
      refine lv_goto (tgt := 18) hx hb d_LR_isWithin_14 (by decide) ?_
      cases h
      exact W.zret hx hb hr rfl (fun t ht hW => ⟨⟨rfl, by rw [ht]; exact hM⟩, hS.F ht⟩) hS.2.2 d_LR_isWithin_18
set_option maxHeartbeats 4000000 in
set_option maxRecDepth 100000 in
theorem c_LR_isPlace (l : Launch) (G : mx_G) (v0 : Int32) (mem : mx_Mem) (q : Int32 × mx_Mem) (h : f_LR_isPlace v0 mem = some q) : Met l y_LR_isPlace (gq_w y_LR_isPlace b_LR_isPlace 1 (some .boolean)) { frames := 1, cells := 0, slots := 0, locals := 25 } (gq_P G [.int v0] mem) (gq_Q G (some (.int q.1)) q.2) 0 0 (mx_A G) := by
  refine Met.ofW (cc := b_LR_isPlace) (maxL := 1) (ret := (some .boolean)) (by decide) rfl ?_
  intro p e s m args below meth c s₁ B hml hv
  obtain ⟨rfl, hb0, hM, hK, hN⟩ := hv
  have CX : gq_C p (headSpec (gq_w y_LR_isPlace b_LR_isPlace 1 (some .boolean)) { frames := 1, cells := 0, slots := 0, locals := 25 }).room s m _ meth c G b_LR_isPlace 1 (some .boolean) R_LR 1 0 0 25 := ⟨B.exec, B.bytes, hml, B.returns, findClass_of_methodNamed B.named, fun w hw => atoms_spec (ws := gq_w y_LR_isPlace b_LR_isPlace 1 (some .boolean)) B.pre w (List.mem_cons_of_mem _ hw), B.notSynchronized, hK, hN, hb0, Nat.le_refl _, Nat.le_refl _, Nat.le_refl _, Nat.le_refl _⟩
  obtain ⟨hx, hb, hml, hr, hown, hts, hlocks, hK, hN, hb0, hRf, hRc, hRs, hRl⟩ := id CX
  have hS : va_S (mx_A G) s.heap s.heap [] := va_S.rf
  have hl := lv_entry [.int v0] (n := 1) (Nat.le_of_ble_eq_true rfl)
  rw [lg_entry_eq]
  generalize (lg_sl [.int v0] ++ List.replicate (1 - (lg_sl [.int v0]).length) Slot.unset).toArray = ls at hl ⊢
  have hl : lv_has ls 1 [(0, .int v0)] := hl
  unfold f_LR_isPlace at h
  refine lv_iload_n hx hb d_LR_isPlace_0 rfl (lv_at hl 0 rfl) ?_
  refine lv_i2l hx hb d_LR_isPlace_1 rfl ?_
  refine lv_lconst (v := 0) hx hb d_LR_isPlace_2 (by decide) ?_
  refine lv_ldc2 (v := 9) hx hb hown (hts _ wd_34) d_LR_isPlace_3 ?_
  obtain ⟨q1, e2, h⟩ := mx_b h
  refine gq_go (va_runS (As := [.long v0.toInt64, .long 0, .long 9]) (rest := []) ⟨hx, hb, hml, hown, hts⟩ (c_LR_isWithin l G v0.toInt64 0 9 _ _ e2) (cwS 3 hts (gq_gS wd_36 wd_37 wd_38 wd_35) rfl rfl rfl (by decide +kernel) ⟨Nat.le_trans (Nat.le_of_ble_eq_true rfl) hRf, Nat.le_trans (Nat.le_of_ble_eq_true rfl) hRl⟩) (gq_preS hK hN hM hS hb0) rfl rfl hl.1 rfl (lv_room (Nat.le_of_ble_eq_true rfl)) d_LR_isPlace_6 ⟨Nat.le_trans (Nat.le_of_ble_eq_true rfl) hRc, Nat.le_trans (Nat.le_of_ble_eq_true rfl) hRs⟩) hS (fun H locs hM hS => ?_)
  refine W.eq (g2 := F0 m 9 ls [.int q1.1]) rfl ?_
  obtain ⟨_, e4, h⟩ := mx_b h
  cases h
  exact W.zret hx hb hr (mx_z_nar e4) (fun t ht hW => ⟨⟨rfl, by rw [ht]; exact hM⟩, hS.F ht⟩) hS.2.2 d_LR_isPlace_9
set_option maxHeartbeats 4000000 in
set_option maxRecDepth 100000 in
theorem c_Li_init (l : Launch) (G : mx_G) (a0 : Nat) (v1 : Int32) (v2 : Int32) (v3 : Int32) (v4 : Int64) (v6 : Int64) (mem : mx_Mem) (q : mx_Mem) (h : f_Li_init a0 v1 v2 v3 v4 v6 mem = some q) : Met l y_Li_init (gq_w y_Li_init b_Li_init 8 none) { frames := 1, cells := 0, slots := 0, locals := 12 } (gq_P G [.ref a0, .int v1, .int v2, .int v3, .long v4, .long v6] mem) (gq_Q G none q) 0 0 (mx_A G) := by
  refine Met.ofW (cc := b_Li_init) (maxL := 8) (ret := none) (by decide) rfl ?_
  intro p e s m args below meth c s₁ B hml hv
  obtain ⟨rfl, hb0, hM, hK, hN⟩ := hv
  have CX : gq_C p (headSpec (gq_w y_Li_init b_Li_init 8 none) { frames := 1, cells := 0, slots := 0, locals := 12 }).room s m _ meth c G b_Li_init 8 none R_Li 1 0 0 12 := ⟨B.exec, B.bytes, hml, B.returns, findClass_of_methodNamed B.named, fun w hw => atoms_spec (ws := gq_w y_Li_init b_Li_init 8 none) B.pre w (List.mem_cons_of_mem _ hw), B.notSynchronized, hK, hN, hb0, Nat.le_refl _, Nat.le_refl _, Nat.le_refl _, Nat.le_refl _⟩
  have hin : meth.name = "<init>" := (name_of_methodNamed B.named B.method).1
  obtain ⟨hx, hb, hml, hr, hown, hts, hlocks, hK, hN, hb0, hRf, hRc, hRs, hRl⟩ := id CX
  have hS : va_S (mx_A G) s.heap s.heap [] := va_S.rf
  have hl := lv_entry [.ref a0, .int v1, .int v2, .int v3, .long v4, .long v6] (n := 8) (Nat.le_of_ble_eq_true rfl)
  rw [lg_entry_eq]
  generalize (lg_sl [.ref a0, .int v1, .int v2, .int v3, .long v4, .long v6] ++ List.replicate (8 - (lg_sl [.ref a0, .int v1, .int v2, .int v3, .long v4, .long v6]).length) Slot.unset).toArray = ls at hl ⊢
  have hl : lv_has ls 8 [(0, va_rf (some a0)), (1, .int v1), (2, .int v2), (3, .int v3), (4, .long v4), (6, .long v6)] := hl
  unfold f_Li_init at h
  refine mx_aload_n hx hb d_Li_init_0 rfl (lv_at hl 0 rfl) ?_
  refine W.objInit hx hb hown (hts _ wd_39) (hts _ wd_1) (hts _ wd_2) rfl (by rw [hml]; exact hl.1) rfl d_Li_init_1 (Nat.le_trans (Nat.le_of_ble_eq_true rfl) hRf) (Nat.le_trans (Nat.le_of_ble_eq_true rfl) hRl) ?_
  refine W.eq (g2 := F0 m 4 ls []) rfl ?_
  refine mx_aload_n hx hb d_Li_init_4 rfl (lv_at hl 0 rfl) ?_
  refine lv_iload_n hx hb d_Li_init_5 rfl (lv_at hl 1 rfl) ?_
  obtain ⟨m1, e2, h⟩ := mx_b h
  refine mx_putF hx hb hts i_Li t_Li t_Li_ok n_Li hown hK hM hS e2 (ci := 1) (C := R_Li) (T := T_Li) (N := 8) rfl 0 (by decide) (hts _ wd_40) rfl hin rfl (ty := .int) (by decide +kernel) rfl rfl d_Li_init_6 (fun H locs hM hS => ?_)
  refine mx_aload_n hx hb d_Li_init_9 rfl (lv_at hl 0 rfl) ?_
  refine lv_iload_n hx hb d_Li_init_10 rfl (lv_at hl 2 rfl) ?_
  obtain ⟨m3, e4, h⟩ := mx_b h
  refine mx_putF hx hb hts i_Li t_Li t_Li_ok n_Li hown hK hM hS e4 (ci := 1) (C := R_Li) (T := T_Li) (N := 8) rfl 1 (by decide) (hts _ wd_41) rfl hin rfl (ty := .int) (by decide +kernel) rfl rfl d_Li_init_11 (fun H locs hM hS => ?_)
  refine mx_aload_n hx hb d_Li_init_14 rfl (lv_at hl 0 rfl) ?_
  refine lv_iload_n hx hb d_Li_init_15 rfl (lv_at hl 3 rfl) ?_
  obtain ⟨m5, e6, h⟩ := mx_b h
  refine mx_putF hx hb hts i_Li t_Li t_Li_ok n_Li hown hK hM hS e6 (ci := 1) (C := R_Li) (T := T_Li) (N := 8) rfl 2 (by decide) (hts _ wd_42) rfl hin rfl (ty := .int) (by decide +kernel) rfl rfl d_Li_init_16 (fun H locs hM hS => ?_)
  refine mx_aload_n hx hb d_Li_init_19 rfl (lv_at hl 0 rfl) ?_
  refine lv_lload hx hb d_Li_init_20 (lv_at hl 4 rfl) ?_
  obtain ⟨m7, e8, h⟩ := mx_b h
  refine mx_putF hx hb hts i_Li t_Li t_Li_ok n_Li hown hK hM hS e8 (ci := 1) (C := R_Li) (T := T_Li) (N := 8) rfl 3 (by decide) (hts _ wd_43) rfl hin rfl (ty := .long) (by decide +kernel) rfl rfl d_Li_init_22 (fun H locs hM hS => ?_)
  refine mx_aload_n hx hb d_Li_init_25 rfl (lv_at hl 0 rfl) ?_
  refine lv_lload hx hb d_Li_init_26 (lv_at hl 5 rfl) ?_
  obtain ⟨m9, e10, h⟩ := mx_b h
  refine mx_putF hx hb hts i_Li t_Li t_Li_ok n_Li hown hK hM hS e10 (ci := 1) (C := R_Li) (T := T_Li) (N := 8) rfl 4 (by decide) (hts _ wd_44) rfl hin rfl (ty := .long) (by decide +kernel) rfl rfl d_Li_init_28 (fun H locs hM hS => ?_)
  refine mx_aload_n hx hb d_Li_init_31 rfl (lv_at hl 0 rfl) ?_
  refine lv_lconst (v := 0) hx hb d_Li_init_32 (by decide) ?_
  obtain ⟨m11, e12, h⟩ := mx_b h
  refine mx_put hx hb hts i_Li t_Li t_Li_ok n_Li hown hK hM hS e12 (ci := 1) (C := R_Li) (T := T_Li) (N := 8) rfl 5 (by decide) (hts _ wd_45) rfl (ty := .long) (by decide +kernel) rfl rfl d_Li_init_33 (fun H locs hM hS => ?_)
  refine mx_aload_n hx hb d_Li_init_36 rfl (lv_at hl 0 rfl) ?_
  refine lv_lconst (v := 0) hx hb d_Li_init_37 (by decide) ?_
  obtain ⟨m13, e14, h⟩ := mx_b h
  refine mx_put hx hb hts i_Li t_Li t_Li_ok n_Li hown hK hM hS e14 (ci := 1) (C := R_Li) (T := T_Li) (N := 8) rfl 6 (by decide) (hts _ wd_46) rfl (ty := .long) (by decide +kernel) rfl rfl d_Li_init_38 (fun H locs hM hS => ?_)
  refine mx_aload_n hx hb d_Li_init_41 rfl (lv_at hl 0 rfl) ?_
  refine lv_lload hx hb d_Li_init_42 (lv_at hl 4 rfl) ?_
  obtain ⟨m15, e16, h⟩ := mx_b h
  refine mx_put hx hb hts i_Li t_Li t_Li_ok n_Li hown hK hM hS e16 (ci := 1) (C := R_Li) (T := T_Li) (N := 8) rfl 7 (by decide) (hts _ wd_47) rfl (ty := .long) (by decide +kernel) rfl rfl d_Li_init_44 (fun H locs hM hS => ?_)
  cases h
  exact W.vret hx hb hr (fun t ht hW => ⟨⟨rfl, by rw [ht]; exact hM⟩, hS.F ht⟩) hS.2.2 d_Li_init_47
set_option maxHeartbeats 4000000 in
set_option maxRecDepth 100000 in
theorem c_Li_forgetWaiting (l : Launch) (G : mx_G) (a0 : Nat) (mem : mx_Mem) (q : mx_Mem) (h : f_Li_forgetWaiting a0 mem = some q) : Met l y_Li_forgetWaiting (gq_w y_Li_forgetWaiting b_Li_forgetWaiting 1 none) { frames := 0, cells := 0, slots := 0, locals := 0 } (gq_P G [.ref a0] mem) (gq_Q G none q) 0 0 (mx_A G) := by
  refine Met.ofW (cc := b_Li_forgetWaiting) (maxL := 1) (ret := none) (by decide) rfl ?_
  intro p e s m args below meth c s₁ B hml hv
  obtain ⟨rfl, hb0, hM, hK, hN⟩ := hv
  have CX : gq_C p (headSpec (gq_w y_Li_forgetWaiting b_Li_forgetWaiting 1 none) { frames := 0, cells := 0, slots := 0, locals := 0 }).room s m _ meth c G b_Li_forgetWaiting 1 none R_Li 0 0 0 0 := ⟨B.exec, B.bytes, hml, B.returns, findClass_of_methodNamed B.named, fun w hw => atoms_spec (ws := gq_w y_Li_forgetWaiting b_Li_forgetWaiting 1 none) B.pre w (List.mem_cons_of_mem _ hw), B.notSynchronized, hK, hN, hb0, Nat.le_refl _, Nat.le_refl _, Nat.le_refl _, Nat.le_refl _⟩
  obtain ⟨hx, hb, hml, hr, hown, hts, hlocks, hK, hN, hb0, hRf, hRc, hRs, hRl⟩ := id CX
  have hS : va_S (mx_A G) s.heap s.heap [] := va_S.rf
  have hl := lv_entry [.ref a0] (n := 1) (Nat.le_of_ble_eq_true rfl)
  rw [lg_entry_eq]
  generalize (lg_sl [.ref a0] ++ List.replicate (1 - (lg_sl [.ref a0]).length) Slot.unset).toArray = ls at hl ⊢
  have hl : lv_has ls 1 [(0, va_rf (some a0))] := hl
  unfold f_Li_forgetWaiting at h
  refine mx_aload_n hx hb d_Li_forgetWaiting_0 rfl (lv_at hl 0 rfl) ?_
  refine mx_aload_n hx hb d_Li_forgetWaiting_1 rfl (lv_at hl 0 rfl) ?_
  obtain ⟨x1, e2, h⟩ := mx_b h
  refine mx_getl hx hb hts i_Li hown hK hM e2 (ci := 1) (C := R_Li) (T := T_Li) (N := 8) rfl 3 (by decide) (hts _ wd_43) d_Li_forgetWaiting_2 ?_
  refine mx_aload_n hx hb d_Li_forgetWaiting_5 rfl (lv_at hl 0 rfl) ?_
  obtain ⟨x3, e4, h⟩ := mx_b h
  refine mx_getl hx hb hts i_Li hown hK hM e4 (ci := 1) (C := R_Li) (T := T_Li) (N := 8) rfl 5 (by decide) (hts _ wd_45) d_Li_forgetWaiting_6 ?_
  refine lv_ladd hx hb d_Li_forgetWaiting_9 ?_
  obtain ⟨m5, e6, h⟩ := mx_b h
  refine mx_put hx hb hts i_Li t_Li t_Li_ok n_Li hown hK hM hS e6 (ci := 1) (C := R_Li) (T := T_Li) (N := 8) rfl 7 (by decide) (hts _ wd_47) rfl (ty := .long) (by decide +kernel) rfl rfl d_Li_forgetWaiting_10 (fun H locs hM hS => ?_)
  cases h
  exact W.vret hx hb hr (fun t ht hW => ⟨⟨rfl, by rw [ht]; exact hM⟩, hS.F ht⟩) hS.2.2 d_Li_forgetWaiting_13
set_option maxHeartbeats 4000000 in
set_option maxRecDepth 100000 in
theorem c_Li_arrivesAt (l : Launch) (G : mx_G) (a0 : Nat) (mem : mx_Mem) (q : Int64 × mx_Mem) (h : f_Li_arrivesAt a0 mem = some q) : Met l y_Li_arrivesAt (gq_w y_Li_arrivesAt b_Li_arrivesAt 1 (some .long)) { frames := 0, cells := 0, slots := 0, locals := 0 } (gq_P G [.ref a0] mem) (gq_Q G (some (.long q.1)) q.2) 0 0 (mx_A G) := by
  refine Met.ofW (cc := b_Li_arrivesAt) (maxL := 1) (ret := (some .long)) (by decide) rfl ?_
  intro p e s m args below meth c s₁ B hml hv
  obtain ⟨rfl, hb0, hM, hK, hN⟩ := hv
  have CX : gq_C p (headSpec (gq_w y_Li_arrivesAt b_Li_arrivesAt 1 (some .long)) { frames := 0, cells := 0, slots := 0, locals := 0 }).room s m _ meth c G b_Li_arrivesAt 1 (some .long) R_Li 0 0 0 0 := ⟨B.exec, B.bytes, hml, B.returns, findClass_of_methodNamed B.named, fun w hw => atoms_spec (ws := gq_w y_Li_arrivesAt b_Li_arrivesAt 1 (some .long)) B.pre w (List.mem_cons_of_mem _ hw), B.notSynchronized, hK, hN, hb0, Nat.le_refl _, Nat.le_refl _, Nat.le_refl _, Nat.le_refl _⟩
  obtain ⟨hx, hb, hml, hr, hown, hts, hlocks, hK, hN, hb0, hRf, hRc, hRs, hRl⟩ := id CX
  have hS : va_S (mx_A G) s.heap s.heap [] := va_S.rf
  have hl := lv_entry [.ref a0] (n := 1) (Nat.le_of_ble_eq_true rfl)
  rw [lg_entry_eq]
  generalize (lg_sl [.ref a0] ++ List.replicate (1 - (lg_sl [.ref a0]).length) Slot.unset).toArray = ls at hl ⊢
  have hl : lv_has ls 1 [(0, va_rf (some a0))] := hl
  unfold f_Li_arrivesAt at h
  refine mx_aload_n hx hb d_Li_arrivesAt_0 rfl (lv_at hl 0 rfl) ?_
  obtain ⟨x1, e2, h⟩ := mx_b h
  refine mx_getl hx hb hts i_Li hown hK hM e2 (ci := 1) (C := R_Li) (T := T_Li) (N := 8) rfl 4 (by decide) (hts _ wd_44) d_Li_arrivesAt_1 ?_
  refine mx_aload_n hx hb d_Li_arrivesAt_4 rfl (lv_at hl 0 rfl) ?_
  obtain ⟨x3, e4, h⟩ := mx_b h
  refine mx_getl hx hb hts i_Li hown hK hM e4 (ci := 1) (C := R_Li) (T := T_Li) (N := 8) rfl 7 (by decide) (hts _ wd_47) d_Li_arrivesAt_5 ?_
  refine mx_aload_n hx hb d_Li_arrivesAt_8 rfl (lv_at hl 0 rfl) ?_
  obtain ⟨x5, e6, h⟩ := mx_b h
  refine mx_getl hx hb hts i_Li hown hK hM e6 (ci := 1) (C := R_Li) (T := T_Li) (N := 8) rfl 3 (by decide) (hts _ wd_43) d_Li_arrivesAt_9 ?_
  refine lv_lsub hx hb d_Li_arrivesAt_12 ?_
  refine lv_ladd hx hb d_Li_arrivesAt_13 ?_
  cases h
  exact W.lret hx hb hr (fun t ht hW => ⟨⟨rfl, by rw [ht]; exact hM⟩, hS.F ht⟩) hS.2.2 d_Li_arrivesAt_14
set_option maxHeartbeats 4000000 in
set_option maxRecDepth 100000 in
theorem c_Lo_pickedOption (l : Launch) (G : mx_G) (a0 : Nat) (mem : mx_Mem) (q : Option Nat × mx_Mem) (h : f_Lo_pickedOption a0 mem = some q) : Met l y_Lo_pickedOption (gq_w y_Lo_pickedOption b_Lo_pickedOption 1 (some (.object "LateRoutes$Option"))) { frames := 0, cells := 0, slots := 0, locals := 0 } (gq_P G [.ref a0] mem) (gq_Q G (some (va_rf q.1)) q.2) 0 0 (mx_A G) := by
  refine Met.ofW (cc := b_Lo_pickedOption) (maxL := 1) (ret := (some (.object "LateRoutes$Option"))) (by decide) rfl ?_
  intro p e s m args below meth c s₁ B hml hv
  obtain ⟨rfl, hb0, hM, hK, hN⟩ := hv
  have CX : gq_C p (headSpec (gq_w y_Lo_pickedOption b_Lo_pickedOption 1 (some (.object "LateRoutes$Option"))) { frames := 0, cells := 0, slots := 0, locals := 0 }).room s m _ meth c G b_Lo_pickedOption 1 (some (.object "LateRoutes$Option")) R_Lo 0 0 0 0 := ⟨B.exec, B.bytes, hml, B.returns, findClass_of_methodNamed B.named, fun w hw => atoms_spec (ws := gq_w y_Lo_pickedOption b_Lo_pickedOption 1 (some (.object "LateRoutes$Option"))) B.pre w (List.mem_cons_of_mem _ hw), B.notSynchronized, hK, hN, hb0, Nat.le_refl _, Nat.le_refl _, Nat.le_refl _, Nat.le_refl _⟩
  obtain ⟨hx, hb, hml, hr, hown, hts, hlocks, hK, hN, hb0, hRf, hRc, hRs, hRl⟩ := id CX
  have hS : va_S (mx_A G) s.heap s.heap [] := va_S.rf
  have hl := lv_entry [.ref a0] (n := 1) (Nat.le_of_ble_eq_true rfl)
  rw [lg_entry_eq]
  generalize (lg_sl [.ref a0] ++ List.replicate (1 - (lg_sl [.ref a0]).length) Slot.unset).toArray = ls at hl ⊢
  have hl : lv_has ls 1 [(0, va_rf (some a0))] := hl
  unfold f_Lo_pickedOption at h
  refine mx_aload_n hx hb d_Lo_pickedOption_0 rfl (lv_at hl 0 rfl) ?_
  obtain ⟨x1, e2, h⟩ := mx_b h
  refine mx_geti hx hb hts i_Lo hown hK hM e2 (ci := 3) (C := R_Lo) (T := T_Lo) (N := 12) rfl 6 (by decide) (hts _ wd_48) d_Lo_pickedOption_1 ?_
  refine lv_if_lt (tgt := 30) hx hb d_Lo_pickedOption_4 (by decide) (fun c3 => ?_) (fun c3 => ?_)
  · rw [if_pos c3] at h
    refine mx_null hx hb d_Lo_pickedOption_30 ?_
    cases h
    exact W.aret hx hb hr (Or.inl ⟨_, rfl⟩) (va_rf_or _) (fun t ht hW => ⟨⟨rfl, by rw [ht]; exact hM⟩, hS.F ht⟩) hS.2.2 d_Lo_pickedOption_31
  · rw [if_neg c3] at h
    refine mx_aload_n hx hb d_Lo_pickedOption_7 rfl (lv_at hl 0 rfl) ?_
    obtain ⟨x4, e5, h⟩ := mx_b h
    refine mx_geti hx hb hts i_Lo hown hK hM e5 (ci := 3) (C := R_Lo) (T := T_Lo) (N := 12) rfl 6 (by decide) (hts _ wd_48) d_Lo_pickedOption_8 ?_
    refine mx_aload_n hx hb d_Lo_pickedOption_11 rfl (lv_at hl 0 rfl) ?_
    obtain ⟨x6, e7, h⟩ := mx_b h
    refine mx_geti hx hb hts i_Lo hown hK hM e7 (ci := 3) (C := R_Lo) (T := T_Lo) (N := 12) rfl 5 (by decide) (hts _ wd_49) d_Lo_pickedOption_12 ?_
    refine lv_icmp_ge (tgt := 30) hx hb d_Lo_pickedOption_15 (by decide) (fun c8 => ?_) (fun c8 => ?_)
    · rw [if_pos c8] at h
      refine mx_null hx hb d_Lo_pickedOption_30 ?_
      cases h
      exact W.aret hx hb hr (Or.inl ⟨_, rfl⟩) (va_rf_or _) (fun t ht hW => ⟨⟨rfl, by rw [ht]; exact hM⟩, hS.F ht⟩) hS.2.2 d_Lo_pickedOption_31
    · rw [if_neg c8] at h
      refine mx_aload_n hx hb d_Lo_pickedOption_18 rfl (lv_at hl 0 rfl) ?_
      obtain ⟨x9, e10, h⟩ := mx_b h
      refine mx_getr hx hb hts i_Lo hown hK hM e10 (ci := 3) (C := R_Lo) (T := T_Lo) (N := 12) rfl 4 (by decide) (hts _ wd_50) d_Lo_pickedOption_19 ?_
      refine mx_aload_n hx hb d_Lo_pickedOption_22 rfl (lv_at hl 0 rfl) ?_
      obtain ⟨x11, e12, h⟩ := mx_b h
      refine mx_geti hx hb hts i_Lo hown hK hM e12 (ci := 3) (C := R_Lo) (T := T_Lo) (N := 12) rfl 6 (by decide) (hts _ wd_48) d_Lo_pickedOption_23 ?_
      obtain ⟨x13, e14, h⟩ := mx_b h
      refine mx_aald hx hb hK hM e14 rfl d_Lo_pickedOption_26 ?_
      refine lv_goto (tgt := 31) hx hb d_Lo_pickedOption_27 (by decide) ?_
      cases h
      exact W.aret hx hb hr (Or.inl ⟨_, rfl⟩) (va_rf_or _) (fun t ht hW => ⟨⟨rfl, by rw [ht]; exact hM⟩, hS.F ht⟩) hS.2.2 d_Lo_pickedOption_31
set_option maxHeartbeats 4000000 in
set_option maxRecDepth 100000 in
theorem c_Li_holdUntil (l : Launch) (G : mx_G) (a0 : Nat) (v1 : Int64) (mem : mx_Mem) (q : mx_Mem) (h : f_Li_holdUntil a0 v1 mem = some q) : Met l y_Li_holdUntil (gq_w y_Li_holdUntil b_Li_holdUntil 3 none) { frames := 1, cells := 0, slots := 0, locals := 16 } (gq_P G [.ref a0, .long v1] mem) (gq_Q G none q) 0 0 (mx_A G) := by
  refine Met.ofW (cc := b_Li_holdUntil) (maxL := 3) (ret := none) (by decide) rfl ?_
  intro p e s m args below meth c s₁ B hml hv
  obtain ⟨rfl, hb0, hM, hK, hN⟩ := hv
  have CX : gq_C p (headSpec (gq_w y_Li_holdUntil b_Li_holdUntil 3 none) { frames := 1, cells := 0, slots := 0, locals := 16 }).room s m _ meth c G b_Li_holdUntil 3 none R_Li 1 0 0 16 := ⟨B.exec, B.bytes, hml, B.returns, findClass_of_methodNamed B.named, fun w hw => atoms_spec (ws := gq_w y_Li_holdUntil b_Li_holdUntil 3 none) B.pre w (List.mem_cons_of_mem _ hw), B.notSynchronized, hK, hN, hb0, Nat.le_refl _, Nat.le_refl _, Nat.le_refl _, Nat.le_refl _⟩
  obtain ⟨hx, hb, hml, hr, hown, hts, hlocks, hK, hN, hb0, hRf, hRc, hRs, hRl⟩ := id CX
  have hS : va_S (mx_A G) s.heap s.heap [] := va_S.rf
  have hl := lv_entry [.ref a0, .long v1] (n := 3) (Nat.le_of_ble_eq_true rfl)
  rw [lg_entry_eq]
  generalize (lg_sl [.ref a0, .long v1] ++ List.replicate (3 - (lg_sl [.ref a0, .long v1]).length) Slot.unset).toArray = ls at hl ⊢
  have hl : lv_has ls 3 [(0, va_rf (some a0)), (1, .long v1)] := hl
  unfold f_Li_holdUntil at h
  refine lv_lload_n hx hb d_Li_holdUntil_0 rfl (lv_at hl 1 rfl) ?_
  refine mx_aload_n hx hb d_Li_holdUntil_1 rfl (lv_at hl 0 rfl) ?_
  obtain ⟨x1, e2, h⟩ := mx_b h
  refine mx_getl hx hb hts i_Li hown hK hM e2 (ci := 1) (C := R_Li) (T := T_Li) (N := 8) rfl 3 (by decide) (hts _ wd_43) d_Li_holdUntil_2 ?_
  refine mx_aload_n hx hb d_Li_holdUntil_5 rfl (lv_at hl 0 rfl) ?_
  obtain ⟨x3, e4, h⟩ := mx_b h
  refine mx_getl hx hb hts i_Li hown hK hM e4 (ci := 1) (C := R_Li) (T := T_Li) (N := 8) rfl 5 (by decide) (hts _ wd_45) d_Li_holdUntil_6 ?_
  refine lv_ladd hx hb d_Li_holdUntil_9 ?_
  refine lv_lsub hx hb d_Li_holdUntil_10 ?_
  refine mx_aload_n hx hb d_Li_holdUntil_11 rfl (lv_at hl 0 rfl) ?_
  obtain ⟨x5, e6, h⟩ := mx_b h
  refine mx_getl hx hb hts i_Li hown hK hM e6 (ci := 1) (C := R_Li) (T := T_Li) (N := 8) rfl 6 (by decide) (hts _ wd_46) d_Li_holdUntil_12 ?_
  refine mx_lcmp_gt (tgt := 31) hx hb d_Li_holdUntil_15 d_Li_holdUntil_16 (by decide) (fun c7 => ?_) (fun c7 => ?_)
  · rw [if_pos c7] at h
    cases h
    exact W.vret hx hb hr (fun t ht hW => ⟨⟨rfl, by rw [ht]; exact hM⟩, hS.F ht⟩) hS.2.2 d_Li_holdUntil_31
  · rw [if_neg c7] at h
    refine mx_aload_n hx hb d_Li_holdUntil_19 rfl (lv_at hl 0 rfl) ?_
    refine mx_aload_n hx hb d_Li_holdUntil_20 rfl (lv_at hl 0 rfl) ?_
    obtain ⟨x8, e9, h⟩ := mx_b h
    refine mx_getl hx hb hts i_Li hown hK hM e9 (ci := 1) (C := R_Li) (T := T_Li) (N := 8) rfl 7 (by decide) (hts _ wd_47) d_Li_holdUntil_21 ?_
    refine lv_lload_n hx hb d_Li_holdUntil_24 rfl (lv_at hl 1 rfl) ?_
    refine va_mmax_long hx hb (by rw [hml]; exact hl.1.symm) hown (hts _ wd_51) (hts _ wd_52) (hts _ wd_53) (hts _ wd_54) (Nat.le_trans (Nat.le_of_ble_eq_true rfl) hRf) (Nat.le_trans (Nat.le_of_ble_eq_true rfl) hRl) (Nat.le_trans (Nat.le_of_ble_eq_true rfl) hRc) (Nat.le_trans (Nat.le_of_ble_eq_true rfl) hRs) d_Li_holdUntil_25 ?_
    obtain ⟨m10, e11, h⟩ := mx_b h
    refine mx_put hx hb hts i_Li t_Li t_Li_ok n_Li hown hK hM hS e11 (ci := 1) (C := R_Li) (T := T_Li) (N := 8) rfl 7 (by decide) (hts _ wd_47) rfl (ty := .long) (by decide +kernel) rfl rfl d_Li_holdUntil_28 (fun H locs hM hS => ?_)
    cases h
    exact W.vret hx hb hr (fun t ht hW => ⟨⟨rfl, by rw [ht]; exact hM⟩, hS.F ht⟩) hS.2.2 d_Li_holdUntil_31
set_option maxHeartbeats 4000000 in
set_option maxRecDepth 100000 in
theorem c_Lo_comeAndHold (l : Launch) (G : mx_G) (a0 : Nat) (mem : mx_Mem) (q : mx_Mem) (h : f_Lo_comeAndHold a0 mem = some q) : Met l y_Lo_comeAndHold (gq_w y_Lo_comeAndHold b_Lo_comeAndHold 2 none) { frames := 2, cells := 0, slots := 0, locals := 38 } (gq_P G [.ref a0] mem) (gq_Q G none q) 0 0 (mx_A G) := by
  refine Met.ofW (cc := b_Lo_comeAndHold) (maxL := 2) (ret := none) (by decide) rfl ?_
  intro p e s m args below meth c s₁ B hml hv
  obtain ⟨rfl, hb0, hM, hK, hN⟩ := hv
  have CX : gq_C p (headSpec (gq_w y_Lo_comeAndHold b_Lo_comeAndHold 2 none) { frames := 2, cells := 0, slots := 0, locals := 38 }).room s m _ meth c G b_Lo_comeAndHold 2 none R_Lo 2 0 0 38 := ⟨B.exec, B.bytes, hml, B.returns, findClass_of_methodNamed B.named, fun w hw => atoms_spec (ws := gq_w y_Lo_comeAndHold b_Lo_comeAndHold 2 none) B.pre w (List.mem_cons_of_mem _ hw), B.notSynchronized, hK, hN, hb0, Nat.le_refl _, Nat.le_refl _, Nat.le_refl _, Nat.le_refl _⟩
  obtain ⟨hx, hb, hml, hr, hown, hts, hlocks, hK, hN, hb0, hRf, hRc, hRs, hRl⟩ := id CX
  have hS : va_S (mx_A G) s.heap s.heap [] := va_S.rf
  have hl := lv_entry [.ref a0] (n := 2) (Nat.le_of_ble_eq_true rfl)
  rw [lg_entry_eq]
  generalize (lg_sl [.ref a0] ++ List.replicate (2 - (lg_sl [.ref a0]).length) Slot.unset).toArray = ls at hl ⊢
  have hl : lv_has ls 2 [(0, va_rf (some a0))] := hl
  unfold f_Lo_comeAndHold at h
  refine mx_aload_n hx hb d_Lo_comeAndHold_0 rfl (lv_at hl 0 rfl) ?_
  refine mx_aload_n hx hb d_Lo_comeAndHold_1 rfl (lv_at hl 0 rfl) ?_
  obtain ⟨x1, e2, h⟩ := mx_b h
  refine mx_getr hx hb hts i_Lo hown hK hM e2 (ci := 3) (C := R_Lo) (T := T_Lo) (N := 12) rfl 0 (by decide) (hts _ wd_55) d_Lo_comeAndHold_2 ?_
  obtain ⟨a6, e5, h⟩ := mx_b h
  obtain ⟨q3, e4, h⟩ := mx_b h
  have e7 := mx_c_eq e5
  refine W.eq (g2 := F0 m 5 ls [.ref a6, va_rf (some a0)]) (congrArg (fun z => F0 m 5 ls [va_rf z, va_rf (some a0)]) e7) ?_
  refine gq_go (va_runV (b := a6) (As := []) (rest := [va_rf (some a0)]) ⟨hx, hb, hml, hown, hts⟩ (c_Li_arrivesAt l G a6  _ _ e4) (cwV 0 hts (gq_gV wd_57 wd_58 wd_59 wd_60 wd_56) rfl rfl rfl (by decide +kernel) ⟨Nat.le_trans (Nat.le_of_ble_eq_true rfl) hRf, Nat.le_trans (Nat.le_of_ble_eq_true rfl) hRl⟩) (gq_preV hK hN hM hS hb0 e5 (C := R_Li) (T := T_Li) (N := 8) rfl) rfl rfl hl.1 rfl (lv_room (Nat.le_of_ble_eq_true rfl)) d_Lo_comeAndHold_5 ⟨Nat.le_trans (Nat.le_of_ble_eq_true rfl) hRc, Nat.le_trans (Nat.le_of_ble_eq_true rfl) hRs⟩) hS (fun H locs hM hS => ?_)
  refine W.eq (g2 := F0 m 8 ls [.long q3.1, va_rf (some a0)]) rfl ?_
  obtain ⟨m8, e9, h⟩ := mx_b h
  refine mx_put hx hb hts i_Lo t_Lo t_Lo_ok n_Lo hown hK hM hS e9 (ci := 3) (C := R_Lo) (T := T_Lo) (N := 12) rfl 8 (by decide) (hts _ wd_61) rfl (ty := .long) (by decide +kernel) rfl rfl d_Lo_comeAndHold_8 (fun H locs hM hS => ?_)
  refine mx_aload_n hx hb d_Lo_comeAndHold_11 rfl (lv_at hl 0 rfl) ?_
  obtain ⟨a13, e12, h⟩ := mx_b h
  obtain ⟨q10, e11, h⟩ := mx_b h
  have e14 := mx_c_eq e12
  refine W.eq (g2 := F0 m 12 ls [.ref a13]) (congrArg (fun z => F0 m 12 ls [va_rf z]) e14) ?_
  refine gq_go (va_runV (b := a13) (As := []) (rest := []) ⟨hx, hb, hml, hown, hts⟩ (c_Lo_pickedOption l G a13  _ _ e11) (cwV 0 hts (gq_gV wd_63 wd_64 wd_65 wd_66 wd_62) rfl rfl rfl (by decide +kernel) ⟨Nat.le_trans (Nat.le_of_ble_eq_true rfl) hRf, Nat.le_trans (Nat.le_of_ble_eq_true rfl) hRl⟩) (gq_preV hK hN hM hS hb0 e12 (C := R_Lo) (T := T_Lo) (N := 12) rfl) rfl rfl hl.1 rfl (lv_room (Nat.le_of_ble_eq_true rfl)) d_Lo_comeAndHold_12 ⟨Nat.le_trans (Nat.le_of_ble_eq_true rfl) hRc, Nat.le_trans (Nat.le_of_ble_eq_true rfl) hRs⟩) hS (fun H locs hM hS => ?_)
  refine W.eq (g2 := F0 m 15 ls [va_rf q10.1]) rfl ?_
  refine mx_astore_n (lv' := [(1, va_rf q10.1), (0, va_rf (some a0))]) hx hb d_Lo_comeAndHold_15 rfl hl (by decide) (by simp [mx_cat, mx_cati, mx_catl, mx_catr]) (fun ls hl => ?_)
  refine mx_aload_n hx hb d_Lo_comeAndHold_16 rfl (lv_at hl 0 rfl) ?_
  refine mx_ifnull (tgt := 50) hx hb d_Lo_comeAndHold_17 (by decide) (fun c15 => ?_) (fun c15 => ?_)
  · rw [if_pos c15] at h
    cases h
    exact W.vret hx hb hr (fun t ht hW => ⟨⟨rfl, by rw [ht]; exact hM⟩, hS.F ht⟩) hS.2.2 d_Lo_comeAndHold_50
  · rw [if_neg c15] at h
    refine mx_aload_n hx hb d_Lo_comeAndHold_20 rfl (lv_at hl 0 rfl) ?_
    obtain ⟨x16, e17, h⟩ := mx_b h
    refine mx_getiN hx hb hts i_Op hown hK hM e17 (ci := 2) (C := R_Op) (T := T_Op) (N := 3) rfl 0 (by decide) (va_Nw.use rfl (hN _ nw_2)) d_Lo_comeAndHold_21 ?_
    refine lv_iconst (v := 1) hx hb d_Lo_comeAndHold_24 (by decide) ?_
    refine lv_icmp_ne (tgt := 50) hx hb d_Lo_comeAndHold_25 (by decide) (fun c18 => ?_) (fun c18 => ?_)
    · rw [if_neg c18] at h
      cases h
      exact W.vret hx hb hr (fun t ht hW => ⟨⟨rfl, by rw [ht]; exact hM⟩, hS.F ht⟩) hS.2.2 d_Lo_comeAndHold_50
    · rw [if_pos c18] at h
      refine mx_aload_n hx hb d_Lo_comeAndHold_28 rfl (lv_at hl 0 rfl) ?_
      obtain ⟨x19, e20, h⟩ := mx_b h
      refine mx_getrN hx hb hts i_Op hown hK hM e20 (ci := 2) (C := R_Op) (T := T_Op) (N := 3) rfl 1 (by decide) (va_Nw.use rfl (hN _ nw_3)) d_Lo_comeAndHold_29 ?_
      refine mx_ifnull (tgt := 50) hx hb d_Lo_comeAndHold_32 (by decide) (fun c21 => ?_) (fun c21 => ?_)
      · rw [if_pos c21] at h
        cases h
        exact W.vret hx hb hr (fun t ht hW => ⟨⟨rfl, by rw [ht]; exact hM⟩, hS.F ht⟩) hS.2.2 d_Lo_comeAndHold_50
      · rw [if_neg c21] at h
        refine mx_aload_n hx hb d_Lo_comeAndHold_35 rfl (lv_at hl 0 rfl) ?_
        obtain ⟨x22, e23, h⟩ := mx_b h
        refine mx_getrN hx hb hts i_Op hown hK hM e23 (ci := 2) (C := R_Op) (T := T_Op) (N := 3) rfl 1 (by decide) (va_Nw.use rfl (hN _ nw_3)) d_Lo_comeAndHold_36 ?_
        refine mx_aload_n hx hb d_Lo_comeAndHold_39 rfl (lv_at hl 1 rfl) ?_
        obtain ⟨x24, e25, h⟩ := mx_b h
        refine mx_getl hx hb hts i_Lo hown hK hM e25 (ci := 3) (C := R_Lo) (T := T_Lo) (N := 12) rfl 8 (by decide) (hts _ wd_61) d_Lo_comeAndHold_40 ?_
        refine lv_ldc2 (v := 10) hx hb hown (hts _ wd_67) d_Lo_comeAndHold_43 ?_
        refine lv_ladd hx hb d_Lo_comeAndHold_46 ?_
        obtain ⟨a29, e28, h⟩ := mx_b h
        obtain ⟨q26, e27, h⟩ := mx_b h
        have e30 := mx_c_eq e28
        refine W.eq (g2 := F0 m 47 ls [.long ((x24 + 10)), .ref a29]) (congrArg (fun z => F0 m 47 ls [.long ((x24 + 10)), va_rf z]) e30) ?_
        refine gq_go (va_runV (b := a29) (As := [.long ((x24 + 10))]) (rest := []) ⟨hx, hb, hml, hown, hts⟩ (c_Li_holdUntil l G a29 (x24 + 10) _ _ e27) (cwV 1 hts (gq_gV wd_69 wd_70 wd_71 wd_60 wd_68) rfl rfl rfl (by decide +kernel) ⟨Nat.le_trans (Nat.le_of_ble_eq_true rfl) hRf, Nat.le_trans (Nat.le_of_ble_eq_true rfl) hRl⟩) (gq_preV hK hN hM hS hb0 e28 (C := R_Li) (T := T_Li) (N := 8) rfl) rfl rfl hl.1 rfl (lv_room (Nat.le_of_ble_eq_true rfl)) d_Lo_comeAndHold_47 ⟨Nat.le_trans (Nat.le_of_ble_eq_true rfl) hRc, Nat.le_trans (Nat.le_of_ble_eq_true rfl) hRs⟩) hS (fun H locs hM hS => ?_)
        refine W.eq (g2 := F0 m 50 ls []) rfl ?_
        cases h
        exact W.vret hx hb hr (fun t ht hW => ⟨⟨rfl, by rw [ht]; exact hM⟩, hS.F ht⟩) hS.2.2 d_Lo_comeAndHold_50
set_option maxHeartbeats 4000000 in
set_option maxRecDepth 100000 in
theorem c_Lo_isDirect (l : Launch) (G : mx_G) (a0 : Nat) (mem : mx_Mem) (q : Int32 × mx_Mem) (h : f_Lo_isDirect a0 mem = some q) : Met l y_Lo_isDirect (gq_w y_Lo_isDirect b_Lo_isDirect 1 (some .boolean)) { frames := 0, cells := 0, slots := 0, locals := 0 } (gq_P G [.ref a0] mem) (gq_Q G (some (.int q.1)) q.2) 0 0 (mx_A G) := by
  refine Met.ofW (cc := b_Lo_isDirect) (maxL := 1) (ret := (some .boolean)) (by decide) rfl ?_
  intro p e s m args below meth c s₁ B hml hv
  obtain ⟨rfl, hb0, hM, hK, hN⟩ := hv
  have CX : gq_C p (headSpec (gq_w y_Lo_isDirect b_Lo_isDirect 1 (some .boolean)) { frames := 0, cells := 0, slots := 0, locals := 0 }).room s m _ meth c G b_Lo_isDirect 1 (some .boolean) R_Lo 0 0 0 0 := ⟨B.exec, B.bytes, hml, B.returns, findClass_of_methodNamed B.named, fun w hw => atoms_spec (ws := gq_w y_Lo_isDirect b_Lo_isDirect 1 (some .boolean)) B.pre w (List.mem_cons_of_mem _ hw), B.notSynchronized, hK, hN, hb0, Nat.le_refl _, Nat.le_refl _, Nat.le_refl _, Nat.le_refl _⟩
  obtain ⟨hx, hb, hml, hr, hown, hts, hlocks, hK, hN, hb0, hRf, hRc, hRs, hRl⟩ := id CX
  have hS : va_S (mx_A G) s.heap s.heap [] := va_S.rf
  have hl := lv_entry [.ref a0] (n := 1) (Nat.le_of_ble_eq_true rfl)
  rw [lg_entry_eq]
  generalize (lg_sl [.ref a0] ++ List.replicate (1 - (lg_sl [.ref a0]).length) Slot.unset).toArray = ls at hl ⊢
  have hl : lv_has ls 1 [(0, va_rf (some a0))] := hl
  unfold f_Lo_isDirect at h
  refine mx_aload_n hx hb d_Lo_isDirect_0 rfl (lv_at hl 0 rfl) ?_
  obtain ⟨x1, e2, h⟩ := mx_b h
  refine mx_getr hx hb hts i_Lo hown hK hM e2 (ci := 3) (C := R_Lo) (T := T_Lo) (N := 12) rfl 0 (by decide) (hts _ wd_55) d_Lo_isDirect_1 ?_
  obtain ⟨x3, e4, h⟩ := mx_b h
  refine mx_getiN hx hb hts i_Li hown hK hM e4 (ci := 1) (C := R_Li) (T := T_Li) (N := 8) rfl 2 (by decide) (va_Nw.use rfl (hN _ nw_4)) d_Lo_isDirect_4 ?_
  refine mx_aload_n hx hb d_Lo_isDirect_7 rfl (lv_at hl 0 rfl) ?_
  obtain ⟨x5, e6, h⟩ := mx_b h
  refine mx_geti hx hb hts i_Lo hown hK hM e6 (ci := 3) (C := R_Lo) (T := T_Lo) (N := 12) rfl 1 (by decide) (hts _ wd_72) d_Lo_isDirect_8 ?_
  refine lv_icmp_ne (tgt := 18) hx hb d_Lo_isDirect_11 (by decide) (fun c7 => ?_) (fun c7 => ?_)
  · rw [if_neg c7] at h
    refine lv_iconst (v := 0) hx hb d_Lo_isDirect_18 (by decide) ?_
    cases h
    exact W.zret hx hb hr rfl (fun t ht hW => ⟨⟨rfl, by rw [ht]; exact hM⟩, hS.F ht⟩) hS.2.2 d_Lo_isDirect_19
  · rw [if_pos c7] at h
    refine lv_iconst (v := 1) hx hb d_Lo_isDirect_14 (by decide) ?_
    refine lv_goto (tgt := 19) hx hb d_Lo_isDirect_15 (by decide) ?_
    cases h
    exact W.zret hx hb hr rfl (fun t ht hW => ⟨⟨rfl, by rw [ht]; exact hM⟩, hS.F ht⟩) hS.2.2 d_Lo_isDirect_19
set_option maxHeartbeats 4000000 in
set_option maxRecDepth 100000 in
theorem c_Lo_catches (l : Launch) (G : mx_G) (a0 : Nat) (v1 : Option Nat) (mem : mx_Mem) (q : Int32 × mx_Mem) (h : f_Lo_catches a0 v1 mem = some q) : Met l y_Lo_catches (gq_w y_Lo_catches b_Lo_catches 2 (some .boolean)) { frames := 0, cells := 0, slots := 0, locals := 0 } (gq_P G [.ref a0, va_rf v1] mem) (gq_Q G (some (.int q.1)) q.2) 0 0 (mx_A G) := by
  refine Met.ofW (cc := b_Lo_catches) (maxL := 2) (ret := (some .boolean)) (by decide) rfl ?_
  intro p e s m args below meth c s₁ B hml hv
  obtain ⟨rfl, hb0, hM, hK, hN⟩ := hv
  have CX : gq_C p (headSpec (gq_w y_Lo_catches b_Lo_catches 2 (some .boolean)) { frames := 0, cells := 0, slots := 0, locals := 0 }).room s m _ meth c G b_Lo_catches 2 (some .boolean) R_Lo 0 0 0 0 := ⟨B.exec, B.bytes, hml, B.returns, findClass_of_methodNamed B.named, fun w hw => atoms_spec (ws := gq_w y_Lo_catches b_Lo_catches 2 (some .boolean)) B.pre w (List.mem_cons_of_mem _ hw), B.notSynchronized, hK, hN, hb0, Nat.le_refl _, Nat.le_refl _, Nat.le_refl _, Nat.le_refl _⟩
  obtain ⟨hx, hb, hml, hr, hown, hts, hlocks, hK, hN, hb0, hRf, hRc, hRs, hRl⟩ := id CX
  have hS : va_S (mx_A G) s.heap s.heap [] := va_S.rf
  have hl := lv_entry [.ref a0, va_rf v1] (n := 2) (by simp [lg_sl, mx_cat, mx_cati, mx_catl, mx_catr])
  rw [lg_entry_eq]
  generalize (lg_sl [.ref a0, va_rf v1] ++ List.replicate (2 - (lg_sl [.ref a0, va_rf v1]).length) Slot.unset).toArray = ls at hl ⊢
  have hl : lv_has ls 2 [(0, va_rf (some a0)), (1, va_rf v1)] := by have h9 := hl; simp [lv_args, mx_cat, mx_cati, mx_catl, mx_catr] at h9; exact h9
  unfold f_Lo_catches at h
  refine mx_aload_n hx hb d_Lo_catches_0 rfl (lv_at hl 1 rfl) ?_
  obtain ⟨x1, e2, h⟩ := mx_b h
  refine mx_getlN hx hb hts i_Li hown hK hM e2 (ci := 1) (C := R_Li) (T := T_Li) (N := 8) rfl 7 (by decide) (va_Nw.use rfl (hN _ nw_5)) d_Lo_catches_1 ?_
  refine mx_aload_n hx hb d_Lo_catches_4 rfl (lv_at hl 0 rfl) ?_
  obtain ⟨x3, e4, h⟩ := mx_b h
  refine mx_getl hx hb hts i_Lo hown hK hM e4 (ci := 3) (C := R_Lo) (T := T_Lo) (N := 12) rfl 8 (by decide) (hts _ wd_61) d_Lo_catches_5 ?_
  refine lv_ldc2 (v := 10) hx hb hown (hts _ wd_67) d_Lo_catches_8 ?_
  refine lv_ladd hx hb d_Lo_catches_11 ?_
  refine mx_lcmp_lt (tgt := 20) hx hb d_Lo_catches_12 d_Lo_catches_13 (by decide) (fun c5 => ?_) (fun c5 => ?_)
  · rw [if_pos c5] at h
    refine lv_iconst (v := 0) hx hb d_Lo_catches_20 (by decide) ?_
    cases h
    exact W.zret hx hb hr rfl (fun t ht hW => ⟨⟨rfl, by rw [ht]; exact hM⟩, hS.F ht⟩) hS.2.2 d_Lo_catches_21
  · rw [if_neg c5] at h
    refine lv_iconst (v := 1) hx hb d_Lo_catches_16 (by decide) ?_
    refine lv_goto (tgt := 21) hx hb d_Lo_catches_17 (by decide) ?_
    cases h
    exact W.zret hx hb hr rfl (fun t ht hW => ⟨⟨rfl, by rw [ht]; exact hM⟩, hS.F ht⟩) hS.2.2 d_Lo_catches_21
end
section
set_option maxHeartbeats 4000000 in
set_option maxRecDepth 100000 in
theorem wfj_Lo_arrive_91 {p : Program} {l : Launch} {e : Env} {R : Room} {s : State} {m : MethodId} {args : Array Value} {below : List Frame} {meth : Method} {c : Code} {G : mx_G} (q : mx_Mem) (CX : gq_C p R s m args meth c G b_Lo_arrive 2 none R_Lo 1 0 0 21) (v0 : Option Nat) (mem : mx_Mem) (h : fj_Lo_arrive_91 v0 mem = some q) (H : Heap) (locs : List Loc) (ls : Array Slot) (hl : lv_has ls 2 [(0, va_rf v0)]) (hM : mx_M vwCl G mem H) (hS : va_S (mx_A G) s.heap H locs) : W p l e R s m args below meth c H locs 0 0 (MQ below (gq_Q G none q) args s 0 0 (mx_A G)) (F0 m 91 ls []) := by
  obtain ⟨hx, hb, hml, hr, hown, hts, hlocks, hK, hN, hb0, hRf, hRc, hRs, hRl⟩ := id CX
  rw [fj_Lo_arrive_91] at h
  refine mx_aload_n hx hb d_Lo_arrive_91 rfl (lv_at hl 0 rfl) ?_
  refine mx_aload_n hx hb d_Lo_arrive_92 rfl (lv_at hl 0 rfl) ?_
  obtain ⟨x1, e2, h⟩ := mx_b h
  refine mx_getl hx hb hts i_Lo hown hK hM e2 (ci := 3) (C := R_Lo) (T := T_Lo) (N := 12) rfl 8 (by decide) (hts _ wd_61) d_Lo_arrive_93 ?_
  refine lv_ldc2 (v := 1440) hx hb hown (hts _ wd_78) d_Lo_arrive_96 ?_
  refine lv_ladd hx hb d_Lo_arrive_99 ?_
  obtain ⟨m3, e4, h⟩ := mx_b h
  refine mx_put hx hb hts i_Lo t_Lo t_Lo_ok n_Lo hown hK hM hS e4 (ci := 3) (C := R_Lo) (T := T_Lo) (N := 12) rfl 9 (by decide) (hts _ wd_79) rfl (ty := .long) (by decide +kernel) rfl rfl d_Lo_arrive_100 (fun H locs hM hS => ?_)
  refine mx_aload_n hx hb d_Lo_arrive_103 rfl (lv_at hl 0 rfl) ?_
  refine lv_iconst (v := 1) hx hb d_Lo_arrive_104 (by decide) ?_
  obtain ⟨m5, e6, h⟩ := mx_b h
  refine mx_put hx hb hts i_Lo t_Lo t_Lo_ok n_Lo hown hK hM hS e6 (ci := 3) (C := R_Lo) (T := T_Lo) (N := 12) rfl 11 (by decide) (hts _ wd_73) rfl (ty := .boolean) (by decide +kernel) rfl rfl d_Lo_arrive_105 (fun H locs hM hS => ?_)
  cases h
  exact W.vret hx hb hr (fun t ht hW => ⟨⟨rfl, by rw [ht]; exact hM⟩, hS.F ht⟩) hS.2.2 d_Lo_arrive_108
set_option maxHeartbeats 4000000 in
set_option maxRecDepth 100000 in
theorem wfj_Lo_arrive_55 {p : Program} {l : Launch} {e : Env} {R : Room} {s : State} {m : MethodId} {args : Array Value} {below : List Frame} {meth : Method} {c : Code} {G : mx_G} (q : mx_Mem) (CX : gq_C p R s m args meth c G b_Lo_arrive 2 none R_Lo 1 0 0 21) (v0 : Option Nat) (v1 : Option Nat) (mem : mx_Mem) (h : fj_Lo_arrive_55 v0 v1 mem = some q) (H : Heap) (locs : List Loc) (ls : Array Slot) (hl : lv_has ls 2 [(0, va_rf v0), (1, va_rf v1)]) (hM : mx_M vwCl G mem H) (hS : va_S (mx_A G) s.heap H locs) : W p l e R s m args below meth c H locs 0 0 (MQ below (gq_Q G none q) args s 0 0 (mx_A G)) (F0 m 55 ls []) := by
  obtain ⟨hx, hb, hml, hr, hown, hts, hlocks, hK, hN, hb0, hRf, hRc, hRs, hRl⟩ := id CX
  rw [fj_Lo_arrive_55] at h
  refine mx_aload_n hx hb d_Lo_arrive_55 rfl (lv_at hl 1 rfl) ?_
  refine mx_ifnull (tgt := 91) hx hb d_Lo_arrive_56 (by decide) (fun c1 => ?_) (fun c1 => ?_)
  · rw [if_pos c1] at h
    exact wfj_Lo_arrive_91 q CX _ _ h _ _ _ (lv_sub hl [0] rfl) hM hS
  · rw [if_neg c1] at h
    refine mx_aload_n hx hb d_Lo_arrive_59 rfl (lv_at hl 1 rfl) ?_
    obtain ⟨x2, e3, h⟩ := mx_b h
    refine mx_getrN hx hb hts i_Op hown hK hM e3 (ci := 2) (C := R_Op) (T := T_Op) (N := 3) rfl 1 (by decide) (va_Nw.use rfl (hN _ nw_3)) d_Lo_arrive_60 ?_
    refine mx_ifnull (tgt := 91) hx hb d_Lo_arrive_63 (by decide) (fun c4 => ?_) (fun c4 => ?_)
    · rw [if_pos c4] at h
      exact wfj_Lo_arrive_91 q CX _ _ h _ _ _ (lv_sub hl [0] rfl) hM hS
    · rw [if_neg c4] at h
      refine mx_aload_n hx hb d_Lo_arrive_66 rfl (lv_at hl 0 rfl) ?_
      refine mx_aload_n hx hb d_Lo_arrive_67 rfl (lv_at hl 1 rfl) ?_
      obtain ⟨x5, e6, h⟩ := mx_b h
      refine mx_getrN hx hb hts i_Op hown hK hM e6 (ci := 2) (C := R_Op) (T := T_Op) (N := 3) rfl 1 (by decide) (va_Nw.use rfl (hN _ nw_3)) d_Lo_arrive_68 ?_
      obtain ⟨a10, e9, h⟩ := mx_b h
      obtain ⟨q7, e8, h⟩ := mx_b h
      have e11 := mx_c_eq e9
      refine W.eq (g2 := F0 m 71 ls [va_rf x5, .ref a10]) (congrArg (fun z => F0 m 71 ls [va_rf x5, va_rf z]) e11) ?_
      refine gq_go (va_runV (b := a10) (As := [va_rf x5]) (rest := []) ⟨hx, hb, hml, hown, hts⟩ (c_Lo_catches l G a10 x5 _ _ e8) (cwV 1 hts (gq_gV wd_81 wd_82 wd_83 wd_66 wd_80) rfl rfl rfl (by decide +kernel) ⟨Nat.le_trans (Nat.le_of_ble_eq_true rfl) hRf, Nat.le_trans (Nat.le_of_ble_eq_true rfl) hRl⟩) (gq_preV hK hN hM hS hb0 e9 (C := R_Lo) (T := T_Lo) (N := 12) rfl) rfl rfl hl.1 rfl (lv_room (Nat.le_of_ble_eq_true rfl)) d_Lo_arrive_71 ⟨Nat.le_trans (Nat.le_of_ble_eq_true rfl) hRc, Nat.le_trans (Nat.le_of_ble_eq_true rfl) hRs⟩) hS (fun H locs hM hS => ?_)
      refine W.eq (g2 := F0 m 74 ls [.int q7.1]) rfl ?_
      refine lv_if_eq (tgt := 91) hx hb d_Lo_arrive_74 (by decide) (fun c12 => ?_) (fun c12 => ?_)
      · rw [if_pos c12] at h
        exact wfj_Lo_arrive_91 q CX _ _ h _ _ _ (lv_sub hl [0] rfl) hM hS
      · rw [if_neg c12] at h
        refine mx_aload_n hx hb d_Lo_arrive_77 rfl (lv_at hl 0 rfl) ?_
        refine mx_aload_n hx hb d_Lo_arrive_78 rfl (lv_at hl 1 rfl) ?_
        obtain ⟨x13, e14, h⟩ := mx_b h
        refine mx_getrN hx hb hts i_Op hown hK hM e14 (ci := 2) (C := R_Op) (T := T_Op) (N := 3) rfl 1 (by decide) (va_Nw.use rfl (hN _ nw_3)) d_Lo_arrive_79 ?_
        obtain ⟨a18, e17, h⟩ := mx_b h
        obtain ⟨q15, e16, h⟩ := mx_b h
        have e19 := mx_c_eq e17
        refine W.eq (g2 := F0 m 82 ls [.ref a18, va_rf v0]) (congrArg (fun z => F0 m 82 ls [va_rf z, va_rf v0]) e19) ?_
        refine gq_go (va_runV (b := a18) (As := []) (rest := [va_rf v0]) ⟨hx, hb, hml, hown, hts⟩ (c_Li_arrivesAt l G a18  _ _ e16) (cwV 0 hts (gq_gV wd_57 wd_58 wd_59 wd_60 wd_56) rfl rfl rfl (by decide +kernel) ⟨Nat.le_trans (Nat.le_of_ble_eq_true rfl) hRf, Nat.le_trans (Nat.le_of_ble_eq_true rfl) hRl⟩) (gq_preV hK hN hM hS hb0 e17 (C := R_Li) (T := T_Li) (N := 8) rfl) rfl rfl hl.1 rfl (lv_room (by simp [mx_cat, mx_cati, mx_catl, mx_catr])) d_Lo_arrive_82 ⟨Nat.le_trans (Nat.le_of_ble_eq_true rfl) hRc, Nat.le_trans (Nat.le_of_ble_eq_true rfl) hRs⟩) hS (fun H locs hM hS => ?_)
        refine W.eq (g2 := F0 m 85 ls [.long q15.1, va_rf v0]) rfl ?_
        obtain ⟨m20, e21, h⟩ := mx_b h
        refine mx_put hx hb hts i_Lo t_Lo t_Lo_ok n_Lo hown hK hM hS e21 (ci := 3) (C := R_Lo) (T := T_Lo) (N := 12) rfl 9 (by decide) (hts _ wd_79) rfl (ty := .long) (by decide +kernel) rfl rfl d_Lo_arrive_85 (fun H locs hM hS => ?_)
        refine lv_goto (tgt := 108) hx hb d_Lo_arrive_88 (by decide) ?_
        cases h
        exact W.vret hx hb hr (fun t ht hW => ⟨⟨rfl, by rw [ht]; exact hM⟩, hS.F ht⟩) hS.2.2 d_Lo_arrive_108
set_option maxHeartbeats 4000000 in
set_option maxRecDepth 100000 in
theorem c_Lo_arrive (l : Launch) (G : mx_G) (a0 : Nat) (mem : mx_Mem) (q : mx_Mem) (h : f_Lo_arrive a0 mem = some q) : Met l y_Lo_arrive (gq_w y_Lo_arrive b_Lo_arrive 2 none) { frames := 1, cells := 0, slots := 0, locals := 21 } (gq_P G [.ref a0] mem) (gq_Q G none q) 0 0 (mx_A G) := by
  refine Met.ofW (cc := b_Lo_arrive) (maxL := 2) (ret := none) (by decide) rfl ?_
  intro p e s m args below meth c s₁ B hml hv
  obtain ⟨rfl, hb0, hM, hK, hN⟩ := hv
  have CX : gq_C p (headSpec (gq_w y_Lo_arrive b_Lo_arrive 2 none) { frames := 1, cells := 0, slots := 0, locals := 21 }).room s m _ meth c G b_Lo_arrive 2 none R_Lo 1 0 0 21 := ⟨B.exec, B.bytes, hml, B.returns, findClass_of_methodNamed B.named, fun w hw => atoms_spec (ws := gq_w y_Lo_arrive b_Lo_arrive 2 none) B.pre w (List.mem_cons_of_mem _ hw), B.notSynchronized, hK, hN, hb0, Nat.le_refl _, Nat.le_refl _, Nat.le_refl _, Nat.le_refl _⟩
  obtain ⟨hx, hb, hml, hr, hown, hts, hlocks, hK, hN, hb0, hRf, hRc, hRs, hRl⟩ := id CX
  have hS : va_S (mx_A G) s.heap s.heap [] := va_S.rf
  have hl := lv_entry [.ref a0] (n := 2) (Nat.le_of_ble_eq_true rfl)
  rw [lg_entry_eq]
  generalize (lg_sl [.ref a0] ++ List.replicate (2 - (lg_sl [.ref a0]).length) Slot.unset).toArray = ls at hl ⊢
  have hl : lv_has ls 2 [(0, va_rf (some a0))] := hl
  unfold f_Lo_arrive at h
  refine mx_aload_n hx hb d_Lo_arrive_0 rfl (lv_at hl 0 rfl) ?_
  obtain ⟨a4, e3, h⟩ := mx_b h
  obtain ⟨q1, e2, h⟩ := mx_b h
  have e5 := mx_c_eq e3
  refine W.eq (g2 := F0 m 1 ls [.ref a4]) (congrArg (fun z => F0 m 1 ls [va_rf z]) e5) ?_
  refine gq_go (va_runV (b := a4) (As := []) (rest := []) ⟨hx, hb, hml, hown, hts⟩ (c_Lo_pickedOption l G a4  _ _ e2) (cwV 0 hts (gq_gV wd_63 wd_64 wd_65 wd_66 wd_62) rfl rfl rfl (by decide +kernel) ⟨Nat.le_trans (Nat.le_of_ble_eq_true rfl) hRf, Nat.le_trans (Nat.le_of_ble_eq_true rfl) hRl⟩) (gq_preV hK hN hM hS hb0 e3 (C := R_Lo) (T := T_Lo) (N := 12) rfl) rfl rfl hl.1 rfl (lv_room (Nat.le_of_ble_eq_true rfl)) d_Lo_arrive_1 ⟨Nat.le_trans (Nat.le_of_ble_eq_true rfl) hRc, Nat.le_trans (Nat.le_of_ble_eq_true rfl) hRs⟩) hS (fun H locs hM hS => ?_)
  refine W.eq (g2 := F0 m 4 ls [va_rf q1.1]) rfl ?_
  refine mx_astore_n (lv' := [(1, va_rf q1.1), (0, va_rf (some a0))]) hx hb d_Lo_arrive_4 rfl hl (by decide) (by simp [mx_cat, mx_cati, mx_catl, mx_catr]) (fun ls hl => ?_)
  refine mx_aload_n hx hb d_Lo_arrive_5 rfl (lv_at hl 1 rfl) ?_
  refine lv_iconst (v := 0) hx hb d_Lo_arrive_6 (by decide) ?_
  obtain ⟨m6, e7, h⟩ := mx_b h
  refine mx_put hx hb hts i_Lo t_Lo t_Lo_ok n_Lo hown hK hM hS e7 (ci := 3) (C := R_Lo) (T := T_Lo) (N := 12) rfl 11 (by decide) (hts _ wd_73) rfl (ty := .boolean) (by decide +kernel) rfl rfl d_Lo_arrive_7 (fun H locs hM hS => ?_)
  refine mx_aload_n hx hb d_Lo_arrive_10 rfl (lv_at hl 1 rfl) ?_
  obtain ⟨a11, e10, h⟩ := mx_b h
  obtain ⟨q8, e9, h⟩ := mx_b h
  have e12 := mx_c_eq e10
  refine W.eq (g2 := F0 m 11 ls [.ref a11]) (congrArg (fun z => F0 m 11 ls [va_rf z]) e12) ?_
  refine gq_go (va_runV (b := a11) (As := []) (rest := []) ⟨hx, hb, hml, hown, hts⟩ (c_Lo_isDirect l G a11  _ _ e9) (cwV 0 hts (gq_gV wd_75 wd_76 wd_77 wd_66 wd_74) rfl rfl rfl (by decide +kernel) ⟨Nat.le_trans (Nat.le_of_ble_eq_true rfl) hRf, Nat.le_trans (Nat.le_of_ble_eq_true rfl) hRl⟩) (gq_preV hK hN hM hS hb0 e10 (C := R_Lo) (T := T_Lo) (N := 12) rfl) rfl rfl hl.1 rfl (lv_room (Nat.le_of_ble_eq_true rfl)) d_Lo_arrive_11 ⟨Nat.le_trans (Nat.le_of_ble_eq_true rfl) hRc, Nat.le_trans (Nat.le_of_ble_eq_true rfl) hRs⟩) hS (fun H locs hM hS => ?_)
  refine W.eq (g2 := F0 m 14 ls [.int q8.1]) rfl ?_
  refine lv_if_eq (tgt := 28) hx hb d_Lo_arrive_14 (by decide) (fun c13 => ?_) (fun c13 => ?_)
  · rw [if_pos c13] at h
    refine mx_aload_n hx hb d_Lo_arrive_28 rfl (lv_at hl 0 rfl) ?_
    refine mx_ifnull (tgt := 55) hx hb d_Lo_arrive_29 (by decide) (fun c14 => ?_) (fun c14 => ?_)
    · rw [if_pos c14] at h
      exact wfj_Lo_arrive_55 q CX _ _ _ h _ _ _ (lv_sub hl [1, 0] rfl) hM hS
    · rw [if_neg c14] at h
      refine mx_aload_n hx hb d_Lo_arrive_32 rfl (lv_at hl 0 rfl) ?_
      obtain ⟨x15, e16, h⟩ := mx_b h
      refine mx_getiN hx hb hts i_Op hown hK hM e16 (ci := 2) (C := R_Op) (T := T_Op) (N := 3) rfl 0 (by decide) (va_Nw.use rfl (hN _ nw_2)) d_Lo_arrive_33 ?_
      refine lv_iconst (v := 2) hx hb d_Lo_arrive_36 (by decide) ?_
      refine lv_icmp_ne (tgt := 55) hx hb d_Lo_arrive_37 (by decide) (fun c17 => ?_) (fun c17 => ?_)
      · rw [if_neg c17] at h
        exact wfj_Lo_arrive_55 q CX _ _ _ h _ _ _ (lv_sub hl [1, 0] rfl) hM hS
      · rw [if_pos c17] at h
        refine mx_aload_n hx hb d_Lo_arrive_40 rfl (lv_at hl 1 rfl) ?_
        refine mx_aload_n hx hb d_Lo_arrive_41 rfl (lv_at hl 1 rfl) ?_
        obtain ⟨x18, e19, h⟩ := mx_b h
        refine mx_getl hx hb hts i_Lo hown hK hM e19 (ci := 3) (C := R_Lo) (T := T_Lo) (N := 12) rfl 8 (by decide) (hts _ wd_61) d_Lo_arrive_42 ?_
        refine lv_ldc2 (v := 60) hx hb hown (hts _ wd_84) d_Lo_arrive_45 ?_
        refine lv_ladd hx hb d_Lo_arrive_48 ?_
        obtain ⟨m20, e21, h⟩ := mx_b h
        refine mx_put hx hb hts i_Lo t_Lo t_Lo_ok n_Lo hown hK hM hS e21 (ci := 3) (C := R_Lo) (T := T_Lo) (N := 12) rfl 9 (by decide) (hts _ wd_79) rfl (ty := .long) (by decide +kernel) rfl rfl d_Lo_arrive_49 (fun H locs hM hS => ?_)
        refine lv_goto (tgt := 108) hx hb d_Lo_arrive_52 (by decide) ?_
        cases h
        exact W.vret hx hb hr (fun t ht hW => ⟨⟨rfl, by rw [ht]; exact hM⟩, hS.F ht⟩) hS.2.2 d_Lo_arrive_108
  · rw [if_neg c13] at h
    refine mx_aload_n hx hb d_Lo_arrive_17 rfl (lv_at hl 1 rfl) ?_
    refine mx_aload_n hx hb d_Lo_arrive_18 rfl (lv_at hl 1 rfl) ?_
    obtain ⟨x14, e15, h⟩ := mx_b h
    refine mx_getl hx hb hts i_Lo hown hK hM e15 (ci := 3) (C := R_Lo) (T := T_Lo) (N := 12) rfl 8 (by decide) (hts _ wd_61) d_Lo_arrive_19 ?_
    obtain ⟨m16, e17, h⟩ := mx_b h
    refine mx_put hx hb hts i_Lo t_Lo t_Lo_ok n_Lo hown hK hM hS e17 (ci := 3) (C := R_Lo) (T := T_Lo) (N := 12) rfl 9 (by decide) (hts _ wd_79) rfl (ty := .long) (by decide +kernel) rfl rfl d_Lo_arrive_22 (fun H locs hM hS => ?_)
    refine lv_goto (tgt := 108) hx hb d_Lo_arrive_25 (by decide) ?_
    cases h
    exact W.vret hx hb hr (fun t ht hW => ⟨⟨rfl, by rw [ht]; exact hM⟩, hS.F ht⟩) hS.2.2 d_Lo_arrive_108
set_option maxHeartbeats 4000000 in
set_option maxRecDepth 100000 in
theorem wfl_LR_settle_2 {p : Program} {l : Launch} {e : Env} {R : Room} {s : State} {m : MethodId} {args : Array Value} {below : List Frame} {meth : Method} {c : Code} {G : mx_G} (q : mx_Mem) (CX : gq_C p R s m args meth c G b_LR_settle 2 none R_LR 3 0 0 59) {k0 : Option Nat → mx_Mem → Option (mx_Mem)} (hk0 : ∀ (v0 : Option Nat) (mem : mx_Mem), k0 v0 mem = some q → ∀ (H : Heap) (locs : List Loc) (ls : Array Slot), lv_has ls 2 [(0, va_rf v0)] → mx_M vwCl G mem H → va_S (mx_A G) s.heap H locs → W p l e R s m args below meth c H locs 0 0 (MQ below (gq_Q G none q) args s 0 0 (mx_A G)) (F0 m 25 ls [])) : ∀ (n : Nat) (v0 : Option Nat) (v1 : Int32) (mem : mx_Mem), fl_LR_settle_2 k0 n v0 v1 mem = some q → ∀ (H : Heap) (locs : List Loc) (ls : Array Slot), lv_has ls 2 [(0, va_rf v0), (1, .int v1)] → mx_M vwCl G mem H → va_S (mx_A G) s.heap H locs → W p l e R s m args below meth c H locs 0 0 (MQ below (gq_Q G none q) args s 0 0 (mx_A G)) (F0 m 2 ls []) := by
  obtain ⟨hx, hb, hml, hr, hown, hts, hlocks, hK, hN, hb0, hRf, hRc, hRs, hRl⟩ := id CX
  intro n
  induction n with
  | zero => intro v0 v1 mem h; rw [fl_LR_settle_2] at h; cases h
  | succ n ih =>
    intro v0 v1 mem h H locs ls hl hM hS
    rw [fl_LR_settle_2] at h
    refine lv_iload_n hx hb d_LR_settle_2 rfl (lv_at hl 1 rfl) ?_
    refine mx_aload_n hx hb d_LR_settle_3 rfl (lv_at hl 0 rfl) ?_
    obtain ⟨x1, e2, h⟩ := mx_b h
    refine mx_geti hx hb hts i_LR hown hK hM e2 (ci := 0) (C := R_LR) (T := T_LR) (N := 5) rfl 1 (by decide) (hts _ wd_8) d_LR_settle_4 ?_
    refine lv_icmp_ge (tgt := 25) hx hb d_LR_settle_7 (by decide) (fun c3 => ?_) (fun c3 => ?_)
    · rw [if_pos c3] at h
      exact hk0 _ _ h _ _ _ (lv_sub hl [0] rfl) hM hS
    · rw [if_neg c3] at h
      refine mx_aload_n hx hb d_LR_settle_10 rfl (lv_at hl 0 rfl) ?_
      obtain ⟨x4, e5, h⟩ := mx_b h
      refine mx_getr hx hb hts i_LR hown hK hM e5 (ci := 0) (C := R_LR) (T := T_LR) (N := 5) rfl 0 (by decide) (hts _ wd_4) d_LR_settle_11 ?_
      refine lv_iload_n hx hb d_LR_settle_14 rfl (lv_at hl 1 rfl) ?_
      obtain ⟨x6, e7, h⟩ := mx_b h
      refine mx_aald hx hb hK hM e7 rfl d_LR_settle_15 ?_
      obtain ⟨a11, e10, h⟩ := mx_b h
      obtain ⟨q8, e9, h⟩ := mx_b h
      have e12 := mx_c_eq e10
      refine W.eq (g2 := F0 m 16 ls [.ref a11]) (congrArg (fun z => F0 m 16 ls [va_rf z]) e12) ?_
      refine gq_go (va_runV (b := a11) (As := []) (rest := []) ⟨hx, hb, hml, hown, hts⟩ (c_Li_forgetWaiting l G a11  _ _ e9) (cwV 0 hts (gq_gV wd_86 wd_87 wd_88 wd_60 wd_85) rfl rfl rfl (by decide +kernel) ⟨Nat.le_trans (Nat.le_of_ble_eq_true rfl) hRf, Nat.le_trans (Nat.le_of_ble_eq_true rfl) hRl⟩) (gq_preV hK hN hM hS hb0 e10 (C := R_Li) (T := T_Li) (N := 8) rfl) rfl rfl hl.1 rfl (lv_room (Nat.le_of_ble_eq_true rfl)) d_LR_settle_16 ⟨Nat.le_trans (Nat.le_of_ble_eq_true rfl) hRc, Nat.le_trans (Nat.le_of_ble_eq_true rfl) hRs⟩) hS (fun H locs hM hS => ?_)
      refine W.eq (g2 := F0 m 19 ls []) rfl ?_
      refine lv_iinc (v := (v1 + 1)) (lv' := [(1, .int ((v1 + 1))), (0, va_rf v0)]) hx hb d_LR_settle_19 hl (k := 1) rfl rfl (by decide) (by simp [mx_cat, mx_cati, mx_catl, mx_catr]) (fun ls hl => ?_)
      refine lv_goto (tgt := 2) hx hb d_LR_settle_22 (by decide) ?_
      exact ih _ _ _ h _ _ _ (lv_sub hl [1, 0] rfl) hM hS
set_option maxHeartbeats 4000000 in
set_option maxRecDepth 100000 in
theorem wfl_LR_settle_27 {p : Program} {l : Launch} {e : Env} {R : Room} {s : State} {m : MethodId} {args : Array Value} {below : List Frame} {meth : Method} {c : Code} {G : mx_G} (q : mx_Mem) (CX : gq_C p R s m args meth c G b_LR_settle 2 none R_LR 3 0 0 59) {k0 : Option Nat → mx_Mem → Option (mx_Mem)} (hk0 : ∀ (v0 : Option Nat) (mem : mx_Mem), k0 v0 mem = some q → ∀ (H : Heap) (locs : List Loc) (ls : Array Slot), lv_has ls 2 [(0, va_rf v0)] → mx_M vwCl G mem H → va_S (mx_A G) s.heap H locs → W p l e R s m args below meth c H locs 0 0 (MQ below (gq_Q G none q) args s 0 0 (mx_A G)) (F0 m 50 ls [])) : ∀ (n : Nat) (v0 : Option Nat) (v1 : Int32) (mem : mx_Mem), fl_LR_settle_27 k0 n v0 v1 mem = some q → ∀ (H : Heap) (locs : List Loc) (ls : Array Slot), lv_has ls 2 [(0, va_rf v0), (1, .int v1)] → mx_M vwCl G mem H → va_S (mx_A G) s.heap H locs → W p l e R s m args below meth c H locs 0 0 (MQ below (gq_Q G none q) args s 0 0 (mx_A G)) (F0 m 27 ls []) := by
  obtain ⟨hx, hb, hml, hr, hown, hts, hlocks, hK, hN, hb0, hRf, hRc, hRs, hRl⟩ := id CX
  intro n
  induction n with
  | zero => intro v0 v1 mem h; rw [fl_LR_settle_27] at h; cases h
  | succ n ih =>
    intro v0 v1 mem h H locs ls hl hM hS
    rw [fl_LR_settle_27] at h
    refine lv_iload_n hx hb d_LR_settle_27 rfl (lv_at hl 1 rfl) ?_
    refine mx_aload_n hx hb d_LR_settle_28 rfl (lv_at hl 0 rfl) ?_
    obtain ⟨x1, e2, h⟩ := mx_b h
    refine mx_geti hx hb hts i_LR hown hK hM e2 (ci := 0) (C := R_LR) (T := T_LR) (N := 5) rfl 4 (by decide) (hts _ wd_9) d_LR_settle_29 ?_
    refine lv_icmp_ge (tgt := 50) hx hb d_LR_settle_32 (by decide) (fun c3 => ?_) (fun c3 => ?_)
    · rw [if_pos c3] at h
      exact hk0 _ _ h _ _ _ (lv_sub hl [0] rfl) hM hS
    · rw [if_neg c3] at h
      refine mx_aload_n hx hb d_LR_settle_35 rfl (lv_at hl 0 rfl) ?_
      obtain ⟨x4, e5, h⟩ := mx_b h
      refine mx_getr hx hb hts i_LR hown hK hM e5 (ci := 0) (C := R_LR) (T := T_LR) (N := 5) rfl 3 (by decide) (hts _ wd_7) d_LR_settle_36 ?_
      refine lv_iload_n hx hb d_LR_settle_39 rfl (lv_at hl 1 rfl) ?_
      obtain ⟨x6, e7, h⟩ := mx_b h
      refine mx_aald hx hb hK hM e7 rfl d_LR_settle_40 ?_
      obtain ⟨a11, e10, h⟩ := mx_b h
      obtain ⟨q8, e9, h⟩ := mx_b h
      have e12 := mx_c_eq e10
      refine W.eq (g2 := F0 m 41 ls [.ref a11]) (congrArg (fun z => F0 m 41 ls [va_rf z]) e12) ?_
      refine gq_go (va_runV (b := a11) (As := []) (rest := []) ⟨hx, hb, hml, hown, hts⟩ (c_Lo_comeAndHold l G a11  _ _ e9) (cwV 0 hts (gq_gV wd_90 wd_91 wd_92 wd_66 wd_89) rfl rfl rfl (by decide +kernel) ⟨Nat.le_trans (Nat.le_of_ble_eq_true rfl) hRf, Nat.le_trans (Nat.le_of_ble_eq_true rfl) hRl⟩) (gq_preV hK hN hM hS hb0 e10 (C := R_Lo) (T := T_Lo) (N := 12) rfl) rfl rfl hl.1 rfl (lv_room (Nat.le_of_ble_eq_true rfl)) d_LR_settle_41 ⟨Nat.le_trans (Nat.le_of_ble_eq_true rfl) hRc, Nat.le_trans (Nat.le_of_ble_eq_true rfl) hRs⟩) hS (fun H locs hM hS => ?_)
      refine W.eq (g2 := F0 m 44 ls []) rfl ?_
      refine lv_iinc (v := (v1 + 1)) (lv' := [(1, .int ((v1 + 1))), (0, va_rf v0)]) hx hb d_LR_settle_44 hl (k := 1) rfl rfl (by decide) (by simp [mx_cat, mx_cati, mx_catl, mx_catr]) (fun ls hl => ?_)
      refine lv_goto (tgt := 27) hx hb d_LR_settle_47 (by decide) ?_
      exact ih _ _ _ h _ _ _ (lv_sub hl [1, 0] rfl) hM hS
set_option maxHeartbeats 4000000 in
set_option maxRecDepth 100000 in
theorem wfl_LR_settle_52 {p : Program} {l : Launch} {e : Env} {R : Room} {s : State} {m : MethodId} {args : Array Value} {below : List Frame} {meth : Method} {c : Code} {G : mx_G} (q : mx_Mem) (CX : gq_C p R s m args meth c G b_LR_settle 2 none R_LR 3 0 0 59)  : ∀ (n : Nat) (v0 : Option Nat) (v1 : Int32) (mem : mx_Mem), fl_LR_settle_52  n v0 v1 mem = some q → ∀ (H : Heap) (locs : List Loc) (ls : Array Slot), lv_has ls 2 [(0, va_rf v0), (1, .int v1)] → mx_M vwCl G mem H → va_S (mx_A G) s.heap H locs → W p l e R s m args below meth c H locs 0 0 (MQ below (gq_Q G none q) args s 0 0 (mx_A G)) (F0 m 52 ls []) := by
  obtain ⟨hx, hb, hml, hr, hown, hts, hlocks, hK, hN, hb0, hRf, hRc, hRs, hRl⟩ := id CX
  intro n
  induction n with
  | zero => intro v0 v1 mem h; rw [fl_LR_settle_52] at h; cases h
  | succ n ih =>
    intro v0 v1 mem h H locs ls hl hM hS
    rw [fl_LR_settle_52] at h
    refine lv_iload_n hx hb d_LR_settle_52 rfl (lv_at hl 1 rfl) ?_
    refine mx_aload_n hx hb d_LR_settle_53 rfl (lv_at hl 0 rfl) ?_
    obtain ⟨x1, e2, h⟩ := mx_b h
    refine mx_geti hx hb hts i_LR hown hK hM e2 (ci := 0) (C := R_LR) (T := T_LR) (N := 5) rfl 4 (by decide) (hts _ wd_9) d_LR_settle_54 ?_
    refine lv_icmp_ge (tgt := 75) hx hb d_LR_settle_57 (by decide) (fun c3 => ?_) (fun c3 => ?_)
    · rw [if_pos c3] at h
      cases h
      exact W.vret hx hb hr (fun t ht hW => ⟨⟨rfl, by rw [ht]; exact hM⟩, hS.F ht⟩) hS.2.2 d_LR_settle_75
    · rw [if_neg c3] at h
      refine mx_aload_n hx hb d_LR_settle_60 rfl (lv_at hl 0 rfl) ?_
      obtain ⟨x4, e5, h⟩ := mx_b h
      refine mx_getr hx hb hts i_LR hown hK hM e5 (ci := 0) (C := R_LR) (T := T_LR) (N := 5) rfl 2 (by decide) (hts _ wd_6) d_LR_settle_61 ?_
      refine lv_iload_n hx hb d_LR_settle_64 rfl (lv_at hl 1 rfl) ?_
      obtain ⟨x6, e7, h⟩ := mx_b h
      refine mx_aald hx hb hK hM e7 rfl d_LR_settle_65 ?_
      obtain ⟨a11, e10, h⟩ := mx_b h
      obtain ⟨q8, e9, h⟩ := mx_b h
      have e12 := mx_c_eq e10
      refine W.eq (g2 := F0 m 66 ls [.ref a11]) (congrArg (fun z => F0 m 66 ls [va_rf z]) e12) ?_
      refine gq_go (va_runV (b := a11) (As := []) (rest := []) ⟨hx, hb, hml, hown, hts⟩ (c_Lo_arrive l G a11  _ _ e9) (cwV 0 hts (gq_gV wd_94 wd_95 wd_96 wd_66 wd_93) rfl rfl rfl (by decide +kernel) ⟨Nat.le_trans (Nat.le_of_ble_eq_true rfl) hRf, Nat.le_trans (Nat.le_of_ble_eq_true rfl) hRl⟩) (gq_preV hK hN hM hS hb0 e10 (C := R_Lo) (T := T_Lo) (N := 12) rfl) rfl rfl hl.1 rfl (lv_room (Nat.le_of_ble_eq_true rfl)) d_LR_settle_66 ⟨Nat.le_trans (Nat.le_of_ble_eq_true rfl) hRc, Nat.le_trans (Nat.le_of_ble_eq_true rfl) hRs⟩) hS (fun H locs hM hS => ?_)
      refine W.eq (g2 := F0 m 69 ls []) rfl ?_
      refine lv_iinc (v := (v1 + 1)) (lv' := [(1, .int ((v1 + 1))), (0, va_rf v0)]) hx hb d_LR_settle_69 hl (k := 1) rfl rfl (by decide) (by simp [mx_cat, mx_cati, mx_catl, mx_catr]) (fun ls hl => ?_)
      refine lv_goto (tgt := 52) hx hb d_LR_settle_72 (by decide) ?_
      exact ih _ _ _ h _ _ _ (lv_sub hl [1, 0] rfl) hM hS
set_option maxHeartbeats 4000000 in
set_option maxRecDepth 100000 in
theorem c_LR_settle (l : Launch) (G : mx_G) (a0 : Nat) (mem : mx_Mem) (q : mx_Mem) (h : f_LR_settle a0 mem = some q) : Met l y_LR_settle (gq_w y_LR_settle b_LR_settle 2 none) { frames := 3, cells := 0, slots := 0, locals := 59 } (gq_P G [.ref a0] mem) (gq_Q G none q) 0 0 (mx_A G) := by
  refine Met.ofW (cc := b_LR_settle) (maxL := 2) (ret := none) (by decide) rfl ?_
  intro p e s m args below meth c s₁ B hml hv
  obtain ⟨rfl, hb0, hM, hK, hN⟩ := hv
  have CX : gq_C p (headSpec (gq_w y_LR_settle b_LR_settle 2 none) { frames := 3, cells := 0, slots := 0, locals := 59 }).room s m _ meth c G b_LR_settle 2 none R_LR 3 0 0 59 := ⟨B.exec, B.bytes, hml, B.returns, findClass_of_methodNamed B.named, fun w hw => atoms_spec (ws := gq_w y_LR_settle b_LR_settle 2 none) B.pre w (List.mem_cons_of_mem _ hw), B.notSynchronized, hK, hN, hb0, Nat.le_refl _, Nat.le_refl _, Nat.le_refl _, Nat.le_refl _⟩
  obtain ⟨hx, hb, hml, hr, hown, hts, hlocks, hK, hN, hb0, hRf, hRc, hRs, hRl⟩ := id CX
  have hS : va_S (mx_A G) s.heap s.heap [] := va_S.rf
  have hl := lv_entry [.ref a0] (n := 2) (Nat.le_of_ble_eq_true rfl)
  rw [lg_entry_eq]
  generalize (lg_sl [.ref a0] ++ List.replicate (2 - (lg_sl [.ref a0]).length) Slot.unset).toArray = ls at hl ⊢
  have hl : lv_has ls 2 [(0, va_rf (some a0))] := hl
  unfold f_LR_settle at h
  refine lv_iconst (v := 0) hx hb d_LR_settle_0 (by decide) ?_
  refine lv_istore_n (lv' := [(1, .int 0), (0, va_rf (some a0))]) hx hb d_LR_settle_1 rfl hl (by decide) (by simp [mx_cat, mx_cati, mx_catl, mx_catr]) (fun ls hl => ?_)
  refine wfl_LR_settle_2 q CX ?_ 5000 _ _ _ h _ _ _ (lv_sub hl [1, 0] rfl) hM hS
  · intro v0 m1 h H locs ls hl hM hS
    refine lv_iconst (v := 0) hx hb d_LR_settle_25 (by decide) ?_
    refine lv_istore_n (lv' := [(1, .int 0), (0, va_rf v0)]) hx hb d_LR_settle_26 rfl hl (by decide) (by simp [mx_cat, mx_cati, mx_catl, mx_catr]) (fun ls hl => ?_)
    refine wfl_LR_settle_27 q CX ?_ 5000 _ _ _ h _ _ _ (lv_sub hl [1, 0] rfl) hM hS
    · intro v0 m2 h H locs ls hl hM hS
      refine lv_iconst (v := 0) hx hb d_LR_settle_50 (by decide) ?_
      refine lv_istore_n (lv' := [(1, .int 0), (0, va_rf v0)]) hx hb d_LR_settle_51 rfl hl (by decide) (by simp [mx_cat, mx_cati, mx_catl, mx_catr]) (fun ls hl => ?_)
      refine wfl_LR_settle_52 q CX  5000 _ _ _ h _ _ _ (lv_sub hl [1, 0] rfl) hM hS
set_option maxHeartbeats 4000000 in
set_option maxRecDepth 100000 in
theorem c_LR_line (l : Launch) (G : mx_G) (a0 : Nat) (v1 : Int32) (v2 : Int32) (v3 : Int64) (v5 : Int64) (mem : mx_Mem) (q : Int32 × mx_Mem) (h : f_LR_line a0 v1 v2 v3 v5 mem = some q) : Met l y_LR_line (gq_w y_LR_line b_LR_line 7 (some .int)) { frames := 4, cells := 1, slots := 8, locals := 80 } (gq_P G [.ref a0, .int v1, .int v2, .long v3, .long v5] mem) (gq_Q G (some (.int q.1)) q.2) 1 8 (mx_A G) := by
  refine Met.ofW (cc := b_LR_line) (maxL := 7) (ret := (some .int)) (by decide) rfl ?_
  intro p e s m args below meth c s₁ B hml hv
  obtain ⟨rfl, hb0, hM, hK, hN⟩ := hv
  have CX : gq_C p (headSpec (gq_w y_LR_line b_LR_line 7 (some .int)) { frames := 4, cells := 1, slots := 8, locals := 80 }).room s m _ meth c G b_LR_line 7 (some .int) R_LR 4 1 8 80 := ⟨B.exec, B.bytes, hml, B.returns, findClass_of_methodNamed B.named, fun w hw => atoms_spec (ws := gq_w y_LR_line b_LR_line 7 (some .int)) B.pre w (List.mem_cons_of_mem _ hw), B.notSynchronized, hK, hN, hb0, Nat.le_refl _, Nat.le_refl _, Nat.le_refl _, Nat.le_refl _⟩
  obtain ⟨hx, hb, hml, hr, hown, hts, hlocks, hK, hN, hb0, hRf, hRc, hRs, hRl⟩ := id CX
  have hS : va_S (mx_A G) s.heap s.heap [] := va_S.rf
  have hl := lv_entry [.ref a0, .int v1, .int v2, .long v3, .long v5] (n := 7) (Nat.le_of_ble_eq_true rfl)
  rw [lg_entry_eq]
  generalize (lg_sl [.ref a0, .int v1, .int v2, .long v3, .long v5] ++ List.replicate (7 - (lg_sl [.ref a0, .int v1, .int v2, .long v3, .long v5]).length) Slot.unset).toArray = ls at hl ⊢
  have hl : lv_has ls 7 [(0, va_rf (some a0)), (1, .int v1), (2, .int v2), (3, .long v3), (5, .long v5)] := hl
  unfold f_LR_line at h
  refine lv_iload_n hx hb d_LR_line_0 rfl (lv_at hl 1 rfl) ?_
  obtain ⟨q1, e2, h⟩ := mx_b h
  refine gq_go (va_runS (As := [.int v1]) (rest := []) ⟨hx, hb, hml, hown, hts⟩ (c_LR_isPlace l G v1 _ _ e2) (cwS 1 hts (gq_gS wd_98 wd_99 wd_38 wd_97) rfl rfl rfl (by decide +kernel) ⟨Nat.le_trans (Nat.le_of_ble_eq_true rfl) hRf, Nat.le_trans (Nat.le_of_ble_eq_true rfl) hRl⟩) (gq_preS hK hN hM hS hb0) rfl rfl hl.1 rfl (lv_room (Nat.le_of_ble_eq_true rfl)) d_LR_line_1 ⟨Nat.le_trans (Nat.le_of_ble_eq_true rfl) hRc, Nat.le_trans (Nat.le_of_ble_eq_true rfl) hRs⟩) hS (fun H locs hM hS => ?_)
  refine W.eq (g2 := F0 m 4 ls [.int q1.1]) rfl ?_
  refine lv_if_eq (tgt := 19) hx hb d_LR_line_4 (by decide) (fun c4 => ?_) (fun c4 => ?_)
  · rw [if_pos c4] at h
    refine lv_bipush (v := (-12)) hx hb d_LR_line_19 (by decide) ?_
    cases h
    refine W.widen (k := 1) (n := 8) (by decide) (by decide) ?_
    exact W.iret hx hb hr (fun t ht hW => ⟨⟨rfl, by rw [ht]; exact hM⟩, hS.F ht⟩) hS.2.2 d_LR_line_21
  · rw [if_neg c4] at h
    refine lv_iload_n hx hb d_LR_line_7 rfl (lv_at hl 2 rfl) ?_
    obtain ⟨q5, e6, h⟩ := mx_b h
    refine gq_go (va_runS (As := [.int v2]) (rest := []) ⟨hx, hb, hml, hown, hts⟩ (c_LR_isPlace l G v2 _ _ e6) (cwS 1 hts (gq_gS wd_98 wd_99 wd_38 wd_97) rfl rfl rfl (by decide +kernel) ⟨Nat.le_trans (Nat.le_of_ble_eq_true rfl) hRf, Nat.le_trans (Nat.le_of_ble_eq_true rfl) hRl⟩) (gq_preS hK hN hM hS hb0) rfl rfl hl.1 rfl (lv_room (Nat.le_of_ble_eq_true rfl)) d_LR_line_8 ⟨Nat.le_trans (Nat.le_of_ble_eq_true rfl) hRc, Nat.le_trans (Nat.le_of_ble_eq_true rfl) hRs⟩) hS (fun H locs hM hS => ?_)
    refine W.eq (g2 := F0 m 11 ls [.int q5.1]) rfl ?_
    refine lv_if_eq (tgt := 19) hx hb d_LR_line_11 (by decide) (fun c8 => ?_) (fun c8 => ?_)
    · rw [if_pos c8] at h
      refine lv_bipush (v := (-12)) hx hb d_LR_line_19 (by decide) ?_
      cases h
      refine W.widen (k := 1) (n := 8) (by decide) (by decide) ?_
      exact W.iret hx hb hr (fun t ht hW => ⟨⟨rfl, by rw [ht]; exact hM⟩, hS.F ht⟩) hS.2.2 d_LR_line_21
    · rw [if_neg c8] at h
      refine lv_iload_n hx hb d_LR_line_14 rfl (lv_at hl 1 rfl) ?_
      refine lv_iload_n hx hb d_LR_line_15 rfl (lv_at hl 2 rfl) ?_
      refine lv_icmp_ne (tgt := 22) hx hb d_LR_line_16 (by decide) (fun c9 => ?_) (fun c9 => ?_)
      · rw [if_neg c9] at h
        refine lv_lload_n hx hb d_LR_line_22 rfl (lv_at hl 3 rfl) ?_
        refine lv_lconst (v := 0) hx hb d_LR_line_23 (by decide) ?_
        refine lv_ldc2 (v := 10000) hx hb hown (hts _ wd_100) d_LR_line_24 ?_
        obtain ⟨q10, e11, h⟩ := mx_b h
        refine gq_go (va_runS (As := [.long v3, .long 0, .long 10000]) (rest := []) ⟨hx, hb, hml, hown, hts⟩ (c_LR_isWithin l G v3 0 10000 _ _ e11) (cwS 3 hts (gq_gS wd_36 wd_37 wd_38 wd_35) rfl rfl rfl (by decide +kernel) ⟨Nat.le_trans (Nat.le_of_ble_eq_true rfl) hRf, Nat.le_trans (Nat.le_of_ble_eq_true rfl) hRl⟩) (gq_preS hK hN hM hS hb0) rfl rfl hl.1 rfl (lv_room (Nat.le_of_ble_eq_true rfl)) d_LR_line_27 ⟨Nat.le_trans (Nat.le_of_ble_eq_true rfl) hRc, Nat.le_trans (Nat.le_of_ble_eq_true rfl) hRs⟩) hS (fun H locs hM hS => ?_)
        refine W.eq (g2 := F0 m 30 ls [.int q10.1]) rfl ?_
        refine lv_if_eq (tgt := 52) hx hb d_LR_line_30 (by decide) (fun c13 => ?_) (fun c13 => ?_)
        · rw [if_pos c13] at h
          refine lv_bipush (v := (-12)) hx hb d_LR_line_52 (by decide) ?_
          cases h
          refine W.widen (k := 1) (n := 8) (by decide) (by decide) ?_
          exact W.iret hx hb hr (fun t ht hW => ⟨⟨rfl, by rw [ht]; exact hM⟩, hS.F ht⟩) hS.2.2 d_LR_line_54
        · rw [if_neg c13] at h
          refine lv_lload hx hb d_LR_line_33 (lv_at hl 4 rfl) ?_
          refine lv_lconst (v := 0) hx hb d_LR_line_35 (by decide) ?_
          refine lv_ldc2 (v := 10000) hx hb hown (hts _ wd_100) d_LR_line_36 ?_
          obtain ⟨q14, e15, h⟩ := mx_b h
          refine gq_go (va_runS (As := [.long v5, .long 0, .long 10000]) (rest := []) ⟨hx, hb, hml, hown, hts⟩ (c_LR_isWithin l G v5 0 10000 _ _ e15) (cwS 3 hts (gq_gS wd_36 wd_37 wd_38 wd_35) rfl rfl rfl (by decide +kernel) ⟨Nat.le_trans (Nat.le_of_ble_eq_true rfl) hRf, Nat.le_trans (Nat.le_of_ble_eq_true rfl) hRl⟩) (gq_preS hK hN hM hS hb0) rfl rfl hl.1 rfl (lv_room (Nat.le_of_ble_eq_true rfl)) d_LR_line_39 ⟨Nat.le_trans (Nat.le_of_ble_eq_true rfl) hRc, Nat.le_trans (Nat.le_of_ble_eq_true rfl) hRs⟩) hS (fun H locs hM hS => ?_)
          refine W.eq (g2 := F0 m 42 ls [.int q14.1]) rfl ?_
          refine lv_if_eq (tgt := 52) hx hb d_LR_line_42 (by decide) (fun c17 => ?_) (fun c17 => ?_)
          · rw [if_pos c17] at h
            refine lv_bipush (v := (-12)) hx hb d_LR_line_52 (by decide) ?_
            cases h
            refine W.widen (k := 1) (n := 8) (by decide) (by decide) ?_
            exact W.iret hx hb hr (fun t ht hW => ⟨⟨rfl, by rw [ht]; exact hM⟩, hS.F ht⟩) hS.2.2 d_LR_line_54
          · rw [if_neg c17] at h
            refine lv_lload hx hb d_LR_line_45 (lv_at hl 4 rfl) ?_
            refine lv_lload_n hx hb d_LR_line_47 rfl (lv_at hl 3 rfl) ?_
            refine mx_lcmp_gt (tgt := 55) hx hb d_LR_line_48 d_LR_line_49 (by decide) (fun c18 => ?_) (fun c18 => ?_)
            · rw [if_pos c18] at h
              refine mx_aload_n hx hb d_LR_line_55 rfl (lv_at hl 0 rfl) ?_
              obtain ⟨x19, e20, h⟩ := mx_b h
              refine mx_geti hx hb hts i_LR hown hK hM e20 (ci := 0) (C := R_LR) (T := T_LR) (N := 5) rfl 1 (by decide) (hts _ wd_8) d_LR_line_56 ?_
              refine mx_aload_n hx hb d_LR_line_59 rfl (lv_at hl 0 rfl) ?_
              obtain ⟨x21, e22, h⟩ := mx_b h
              refine mx_getr hx hb hts i_LR hown hK hM e22 (ci := 0) (C := R_LR) (T := T_LR) (N := 5) rfl 0 (by decide) (hts _ wd_4) d_LR_line_60 ?_
              obtain ⟨x23, e24, h⟩ := mx_b h
              refine mx_alen hx hb hK hM e24 rfl d_LR_line_63 ?_
              refine lv_icmp_lt (tgt := 70) hx hb d_LR_line_64 (by decide) (fun c25 => ?_) (fun c25 => ?_)
              · rw [if_pos c25] at h
                refine mx_aload_n hx hb d_LR_line_70 rfl (lv_at hl 0 rfl) ?_
                obtain ⟨x26, e27, h⟩ := mx_b h
                refine mx_getr hx hb hts i_LR hown hK hM e27 (ci := 0) (C := R_LR) (T := T_LR) (N := 5) rfl 0 (by decide) (hts _ wd_4) d_LR_line_71 ?_
                refine mx_aload_n hx hb d_LR_line_74 rfl (lv_at hl 0 rfl) ?_
                obtain ⟨x28, e29, h⟩ := mx_b h
                refine mx_geti hx hb hts i_LR hown hK hM e29 (ci := 0) (C := R_LR) (T := T_LR) (N := 5) rfl 1 (by decide) (hts _ wd_8) d_LR_line_75 ?_
                obtain ⟨m30, e31, h⟩ := mx_b h
                refine mx_new (ci := 1) (fs := [.int 0, .int 0, .int 0, .long 0, .long 0, .long 0, .long 0, .long 0]) (C := R_Li) (T := T_Li) (N := 8) hx hb hts i_Li t_Li t_Li_ok hown (hts _ wd_3) (hts _ wd_101) (hts _ wd_60) hK hM hS hb0 rfl (fun j hj => by rcases (show j = 0 ∨ j = 1 ∨ j = 2 ∨ j = 3 ∨ j = 4 ∨ j = 5 ∨ j = 6 ∨ j = 7 by omega) with rfl | rfl | rfl | rfl | rfl | rfl | rfl | rfl <;> rfl) e31 d_LR_line_78 (Nat.le_trans (Nat.le_of_ble_eq_true rfl) hRc) (Nat.le_trans (Nat.le_of_ble_eq_true rfl) hRs) (fun H hM hS => ?_)
                refine W.widen (k := 1) (n := 8) (by decide) (by decide) ?_
                refine lv_dup hx hb d_LR_line_81 (mx_cat _) ?_
                refine mx_aload_n hx hb d_LR_line_82 rfl (lv_at hl 0 rfl) ?_
                obtain ⟨x32, e33, h⟩ := mx_b h
                refine mx_geti hx hb hts i_LR hown hK hM e33 (ci := 0) (C := R_LR) (T := T_LR) (N := 5) rfl 1 (by decide) (hts _ wd_8) d_LR_line_83 ?_
                refine lv_iconst (v := 1) hx hb d_LR_line_86 (by decide) ?_
                refine lv_iadd hx hb d_LR_line_87 ?_
                refine lv_iload_n hx hb d_LR_line_88 rfl (lv_at hl 1 rfl) ?_
                refine lv_iload_n hx hb d_LR_line_89 rfl (lv_at hl 2 rfl) ?_
                refine lv_lload_n hx hb d_LR_line_90 rfl (lv_at hl 3 rfl) ?_
                refine lv_lload hx hb d_LR_line_91 (lv_at hl 4 rfl) ?_
                obtain ⟨q34, e35, h⟩ := mx_b h
                refine gq_go (va_runI (b := (q14.2).1) (As := [.int ((x32 + 1)), .int v1, .int v2, .long v3, .long v5]) (rest := [va_rf (some (q14.2).1), .int x28, va_rf x26]) ⟨hx, hb, hml, hown, hts⟩ (c_Li_init l G ((q14.2).1) (x32 + 1) v1 v2 v3 v5 _ _ e35) (cwI 5 hts (gq_gI wd_102) rfl rfl rfl (hts _ wd_60) (hts _ wd_103) (hts _ wd_104) rfl (by decide +kernel) ⟨Nat.le_trans (Nat.le_of_ble_eq_true rfl) hRf, Nat.le_trans (Nat.le_of_ble_eq_true rfl) hRl⟩) (gq_preS hK hN hM hS hb0) rfl rfl hl.1 rfl (lv_room (by simp [mx_cat, mx_cati, mx_catl, mx_catr])) d_LR_line_93 ⟨Nat.le_trans (Nat.le_of_ble_eq_true rfl) hRc, Nat.le_trans (Nat.le_of_ble_eq_true rfl) hRs⟩) hS (fun H locs hM hS => ?_)
                refine W.eq (g2 := F0 m 96 ls [va_rf (some (q14.2).1), .int x28, va_rf x26]) rfl ?_
                obtain ⟨_, e37, h⟩ := mx_b h
                obtain ⟨m39, e38, h⟩ := mx_b h
                refine mx_aast hx hb hK hM hS e37 e38 rfl rfl d_LR_line_96 (fun H locs hM hS => ?_)
                refine mx_aload_n hx hb d_LR_line_97 rfl (lv_at hl 0 rfl) ?_
                refine lv_dup hx hb d_LR_line_98 (mx_cat _) ?_
                obtain ⟨x40, e41, h⟩ := mx_b h
                refine mx_geti hx hb hts i_LR hown hK hM e41 (ci := 0) (C := R_LR) (T := T_LR) (N := 5) rfl 1 (by decide) (hts _ wd_8) d_LR_line_99 ?_
                refine lv_iconst (v := 1) hx hb d_LR_line_102 (by decide) ?_
                refine lv_iadd hx hb d_LR_line_103 ?_
                obtain ⟨m42, e43, h⟩ := mx_b h
                refine mx_put hx hb hts i_LR t_LR t_LR_ok n_LR hown hK hM hS e43 (ci := 0) (C := R_LR) (T := T_LR) (N := 5) rfl 1 (by decide) (hts _ wd_8) rfl (ty := .int) (by decide +kernel) rfl rfl d_LR_line_104 (fun H locs hM hS => ?_)
                refine mx_aload_n hx hb d_LR_line_107 rfl (lv_at hl 0 rfl) ?_
                obtain ⟨a47, e46, h⟩ := mx_b h
                obtain ⟨q44, e45, h⟩ := mx_b h
                have e48 := mx_c_eq e46
                refine W.eq (g2 := F0 m 108 ls [.ref a47]) (congrArg (fun z => F0 m 108 ls [va_rf z]) e48) ?_
                refine gq_go (va_runV (b := a47) (As := []) (rest := []) ⟨hx, hb, hml, hown, hts⟩ (c_LR_settle l G a47  _ _ e45) (cwV 0 hts (gq_gV wd_106 wd_107 wd_108 wd_38 wd_105) rfl rfl rfl (by decide +kernel) ⟨Nat.le_trans (Nat.le_of_ble_eq_true rfl) hRf, Nat.le_trans (Nat.le_of_ble_eq_true rfl) hRl⟩) (gq_preV hK hN hM hS hb0 e46 (C := R_LR) (T := T_LR) (N := 5) rfl) rfl rfl hl.1 rfl (lv_room (Nat.le_of_ble_eq_true rfl)) d_LR_line_108 ⟨Nat.le_trans (Nat.le_of_ble_eq_true rfl) hRc, Nat.le_trans (Nat.le_of_ble_eq_true rfl) hRs⟩) hS (fun H locs hM hS => ?_)
                refine W.eq (g2 := F0 m 111 ls []) rfl ?_
                refine mx_aload_n hx hb d_LR_line_111 rfl (lv_at hl 0 rfl) ?_
                obtain ⟨x49, e50, h⟩ := mx_b h
                refine mx_geti hx hb hts i_LR hown hK hM e50 (ci := 0) (C := R_LR) (T := T_LR) (N := 5) rfl 1 (by decide) (hts _ wd_8) d_LR_line_112 ?_
                cases h
                exact W.iret hx hb hr (fun t ht hW => ⟨⟨rfl, by rw [ht]; exact hM⟩, hS.F ht⟩) hS.2.2 d_LR_line_115
              · rw [if_neg c25] at h
                refine lv_bipush (v := (-14)) hx hb d_LR_line_67 (by decide) ?_
                cases h
                refine W.widen (k := 1) (n := 8) (by decide) (by decide) ?_
                exact W.iret hx hb hr (fun t ht hW => ⟨⟨rfl, by rw [ht]; exact hM⟩, hS.F ht⟩) hS.2.2 d_LR_line_69
            · rw [if_neg c18] at h
              refine lv_bipush (v := (-12)) hx hb d_LR_line_52 (by decide) ?_
              cases h
              refine W.widen (k := 1) (n := 8) (by decide) (by decide) ?_
              exact W.iret hx hb hr (fun t ht hW => ⟨⟨rfl, by rw [ht]; exact hM⟩, hS.F ht⟩) hS.2.2 d_LR_line_54
      · rw [if_pos c9] at h
        refine lv_bipush (v := (-12)) hx hb d_LR_line_19 (by decide) ?_
        cases h
        refine W.widen (k := 1) (n := 8) (by decide) (by decide) ?_
        exact W.iret hx hb hr (fun t ht hW => ⟨⟨rfl, by rw [ht]; exact hM⟩, hS.F ht⟩) hS.2.2 d_LR_line_21
set_option maxHeartbeats 4000000 in
set_option maxRecDepth 100000 in
theorem c_Mo_in (l : Launch) (G : mx_G) (v0 : Int64) (v2 : Int64) (v4 : Int64) (mem : mx_Mem) (q : Int32 × mx_Mem) (h : f_Mo_in v0 v2 v4 mem = some q) : Met l y_Mo_in (gq_w y_Mo_in b_Mo_in 6 (some .boolean)) { frames := 0, cells := 0, slots := 0, locals := 0 } (gq_P G [.long v0, .long v2, .long v4] mem) (gq_Q G (some (.int q.1)) q.2) 0 0 (mx_A G) := by
  refine Met.ofW (cc := b_Mo_in) (maxL := 6) (ret := (some .boolean)) (by decide) rfl ?_
  intro p e s m args below meth c s₁ B hml hv
  obtain ⟨rfl, hb0, hM, hK, hN⟩ := hv
  have CX : gq_C p (headSpec (gq_w y_Mo_in b_Mo_in 6 (some .boolean)) { frames := 0, cells := 0, slots := 0, locals := 0 }).room s m _ meth c G b_Mo_in 6 (some .boolean) R_Mo 0 0 0 0 := ⟨B.exec, B.bytes, hml, B.returns, findClass_of_methodNamed B.named, fun w hw => atoms_spec (ws := gq_w y_Mo_in b_Mo_in 6 (some .boolean)) B.pre w (List.mem_cons_of_mem _ hw), B.notSynchronized, hK, hN, hb0, Nat.le_refl _, Nat.le_refl _, Nat.le_refl _, Nat.le_refl _⟩
  obtain ⟨hx, hb, hml, hr, hown, hts, hlocks, hK, hN, hb0, hRf, hRc, hRs, hRl⟩ := id CX
  have hS : va_S (mx_A G) s.heap s.heap [] := va_S.rf
  have hl := lv_entry [.long v0, .long v2, .long v4] (n := 6) (Nat.le_of_ble_eq_true rfl)
  rw [lg_entry_eq]
  generalize (lg_sl [.long v0, .long v2, .long v4] ++ List.replicate (6 - (lg_sl [.long v0, .long v2, .long v4]).length) Slot.unset).toArray = ls at hl ⊢
  have hl : lv_has ls 6 [(0, .long v0), (2, .long v2), (4, .long v4)] := hl
  unfold f_Mo_in at h
  refine lv_lload_n hx hb d_Mo_in_0 rfl (lv_at hl 0 rfl) ?_
  refine lv_lload_n hx hb d_Mo_in_1 rfl (lv_at hl 1 rfl) ?_
  refine mx_lcmp_lt (tgt := 17) hx hb d_Mo_in_2 d_Mo_in_3 (by decide) (fun c1 => ?_) (fun c1 => ?_)
  · rw [if_pos c1] at h
    refine lv_iconst (v := 0) hx hb d_Mo_in_17 (by decide) ?_
    cases h
    exact W.zret hx hb hr rfl (fun t ht hW => ⟨⟨rfl, by rw [ht]; exact hM⟩, hS.F ht⟩) hS.2.2 d_Mo_in_18
  · rw [if_neg c1] at h
    refine lv_lload_n hx hb d_Mo_in_6 rfl (lv_at hl 0 rfl) ?_
    refine lv_lload hx hb d_Mo_in_7 (lv_at hl 2 rfl) ?_
    refine mx_lcmp_gt (tgt := 17) hx hb d_Mo_in_9 d_Mo_in_10 (by decide) (fun c2 => ?_) (fun c2 => ?_)
    · rw [if_pos c2] at h
      refine lv_iconst (v := 0) hx hb d_Mo_in_17 (by decide) ?_
      cases h
      exact W.zret hx hb hr rfl (fun t ht hW => ⟨⟨rfl, by rw [ht]; exact hM⟩, hS.F ht⟩) hS.2.2 d_Mo_in_18
    · rw [if_neg c2] at h
      refine lv_iconst (v := 1) hx hb d_Mo_in_13 (by decide) ?_
      refine lv_goto (tgt := 18) hx hb d_Mo_in_14 (by decide) ?_
      cases h
      exact W.zret hx hb hr rfl (fun t ht hW => ⟨⟨rfl, by rw [ht]; exact hM⟩, hS.F ht⟩) hS.2.2 d_Mo_in_18
set_option maxHeartbeats 4000000 in
set_option maxRecDepth 100000 in
theorem c_Mo_line (l : Launch) (G : mx_G) (a0 : Nat) (v1 : Int32) (v2 : Int32) (v3 : Int64) (v5 : Int64) (mem : mx_Mem) (q : Int32 × mx_Mem) (h : f_Mo_line a0 v1 v2 v3 v5 mem = some q) : Met l y_Mo_line (gq_w y_Mo_line b_Mo_line 7 (some .int)) { frames := 1, cells := 0, slots := 0, locals := 25 } (gq_P G [.ref a0, .int v1, .int v2, .long v3, .long v5] mem) (gq_Q G (some (.int q.1)) q.2) 0 0 (mx_A G) := by
  refine Met.ofW (cc := b_Mo_line) (maxL := 7) (ret := (some .int)) (by decide) rfl ?_
  intro p e s m args below meth c s₁ B hml hv
  obtain ⟨rfl, hb0, hM, hK, hN⟩ := hv
  have CX : gq_C p (headSpec (gq_w y_Mo_line b_Mo_line 7 (some .int)) { frames := 1, cells := 0, slots := 0, locals := 25 }).room s m _ meth c G b_Mo_line 7 (some .int) R_Mo 1 0 0 25 := ⟨B.exec, B.bytes, hml, B.returns, findClass_of_methodNamed B.named, fun w hw => atoms_spec (ws := gq_w y_Mo_line b_Mo_line 7 (some .int)) B.pre w (List.mem_cons_of_mem _ hw), B.notSynchronized, hK, hN, hb0, Nat.le_refl _, Nat.le_refl _, Nat.le_refl _, Nat.le_refl _⟩
  obtain ⟨hx, hb, hml, hr, hown, hts, hlocks, hK, hN, hb0, hRf, hRc, hRs, hRl⟩ := id CX
  have hS : va_S (mx_A G) s.heap s.heap [] := va_S.rf
  have hl := lv_entry [.ref a0, .int v1, .int v2, .long v3, .long v5] (n := 7) (Nat.le_of_ble_eq_true rfl)
  rw [lg_entry_eq]
  generalize (lg_sl [.ref a0, .int v1, .int v2, .long v3, .long v5] ++ List.replicate (7 - (lg_sl [.ref a0, .int v1, .int v2, .long v3, .long v5]).length) Slot.unset).toArray = ls at hl ⊢
  have hl : lv_has ls 7 [(0, va_rf (some a0)), (1, .int v1), (2, .int v2), (3, .long v3), (5, .long v5)] := hl
  unfold f_Mo_line at h
  refine mx_aload_n hx hb d_Mo_line_0 rfl (lv_at hl 0 rfl) ?_
  refine lv_iconst (v := 0) hx hb d_Mo_line_1 (by decide) ?_
  obtain ⟨m1, e2, h⟩ := mx_b h
  refine mx_put hx hb hts i_Mo t_Mo t_Mo_ok n_Mo hown hK hM hS e2 (ci := 4) (C := R_Mo) (T := T_Mo) (N := 23) rfl 0 (by decide) (hts _ wd_109) rfl (ty := .int) (by decide +kernel) rfl rfl d_Mo_line_2 (fun H locs hM hS => ?_)
  refine lv_iload_n hx hb d_Mo_line_5 rfl (lv_at hl 1 rfl) ?_
  refine lv_i2l hx hb d_Mo_line_6 rfl ?_
  refine lv_lconst (v := 0) hx hb d_Mo_line_7 (by decide) ?_
  refine lv_ldc2 (v := 9) hx hb hown (hts _ wd_110) d_Mo_line_8 ?_
  obtain ⟨q3, e4, h⟩ := mx_b h
  refine gq_go (va_runS (As := [.long v1.toInt64, .long 0, .long 9]) (rest := []) ⟨hx, hb, hml, hown, hts⟩ (c_Mo_in l G v1.toInt64 0 9 _ _ e4) (cwS 3 hts (gq_gS wd_112 wd_113 wd_114 wd_111) rfl rfl rfl (by decide +kernel) ⟨Nat.le_trans (Nat.le_of_ble_eq_true rfl) hRf, Nat.le_trans (Nat.le_of_ble_eq_true rfl) hRl⟩) (gq_preS hK hN hM hS hb0) rfl rfl hl.1 rfl (lv_room (Nat.le_of_ble_eq_true rfl)) d_Mo_line_11 ⟨Nat.le_trans (Nat.le_of_ble_eq_true rfl) hRc, Nat.le_trans (Nat.le_of_ble_eq_true rfl) hRs⟩) hS (fun H locs hM hS => ?_)
  refine W.eq (g2 := F0 m 14 ls [.int q3.1]) rfl ?_
  refine lv_if_eq (tgt := 64) hx hb d_Mo_line_14 (by decide) (fun c6 => ?_) (fun c6 => ?_)
  · rw [if_pos c6] at h
    refine lv_bipush (v := (-12)) hx hb d_Mo_line_64 (by decide) ?_
    cases h
    exact W.iret hx hb hr (fun t ht hW => ⟨⟨rfl, by rw [ht]; exact hM⟩, hS.F ht⟩) hS.2.2 d_Mo_line_66
  · rw [if_neg c6] at h
    refine lv_iload_n hx hb d_Mo_line_17 rfl (lv_at hl 2 rfl) ?_
    refine lv_i2l hx hb d_Mo_line_18 rfl ?_
    refine lv_lconst (v := 0) hx hb d_Mo_line_19 (by decide) ?_
    refine lv_ldc2 (v := 9) hx hb hown (hts _ wd_110) d_Mo_line_20 ?_
    obtain ⟨q7, e8, h⟩ := mx_b h
    refine gq_go (va_runS (As := [.long v2.toInt64, .long 0, .long 9]) (rest := []) ⟨hx, hb, hml, hown, hts⟩ (c_Mo_in l G v2.toInt64 0 9 _ _ e8) (cwS 3 hts (gq_gS wd_112 wd_113 wd_114 wd_111) rfl rfl rfl (by decide +kernel) ⟨Nat.le_trans (Nat.le_of_ble_eq_true rfl) hRf, Nat.le_trans (Nat.le_of_ble_eq_true rfl) hRl⟩) (gq_preS hK hN hM hS hb0) rfl rfl hl.1 rfl (lv_room (Nat.le_of_ble_eq_true rfl)) d_Mo_line_23 ⟨Nat.le_trans (Nat.le_of_ble_eq_true rfl) hRc, Nat.le_trans (Nat.le_of_ble_eq_true rfl) hRs⟩) hS (fun H locs hM hS => ?_)
    refine W.eq (g2 := F0 m 26 ls [.int q7.1]) rfl ?_
    refine lv_if_eq (tgt := 64) hx hb d_Mo_line_26 (by decide) (fun c10 => ?_) (fun c10 => ?_)
    · rw [if_pos c10] at h
      refine lv_bipush (v := (-12)) hx hb d_Mo_line_64 (by decide) ?_
      cases h
      exact W.iret hx hb hr (fun t ht hW => ⟨⟨rfl, by rw [ht]; exact hM⟩, hS.F ht⟩) hS.2.2 d_Mo_line_66
    · rw [if_neg c10] at h
      refine lv_iload_n hx hb d_Mo_line_29 rfl (lv_at hl 1 rfl) ?_
      refine lv_iload_n hx hb d_Mo_line_30 rfl (lv_at hl 2 rfl) ?_
      refine lv_icmp_eq (tgt := 64) hx hb d_Mo_line_31 (by decide) (fun c11 => ?_) (fun c11 => ?_)
      · rw [if_pos c11] at h
        refine lv_bipush (v := (-12)) hx hb d_Mo_line_64 (by decide) ?_
        cases h
        exact W.iret hx hb hr (fun t ht hW => ⟨⟨rfl, by rw [ht]; exact hM⟩, hS.F ht⟩) hS.2.2 d_Mo_line_66
      · rw [if_neg c11] at h
        refine lv_lload_n hx hb d_Mo_line_34 rfl (lv_at hl 3 rfl) ?_
        refine lv_lconst (v := 0) hx hb d_Mo_line_35 (by decide) ?_
        refine lv_ldc2 (v := 10000) hx hb hown (hts _ wd_115) d_Mo_line_36 ?_
        obtain ⟨q12, e13, h⟩ := mx_b h
        refine gq_go (va_runS (As := [.long v3, .long 0, .long 10000]) (rest := []) ⟨hx, hb, hml, hown, hts⟩ (c_Mo_in l G v3 0 10000 _ _ e13) (cwS 3 hts (gq_gS wd_112 wd_113 wd_114 wd_111) rfl rfl rfl (by decide +kernel) ⟨Nat.le_trans (Nat.le_of_ble_eq_true rfl) hRf, Nat.le_trans (Nat.le_of_ble_eq_true rfl) hRl⟩) (gq_preS hK hN hM hS hb0) rfl rfl hl.1 rfl (lv_room (Nat.le_of_ble_eq_true rfl)) d_Mo_line_39 ⟨Nat.le_trans (Nat.le_of_ble_eq_true rfl) hRc, Nat.le_trans (Nat.le_of_ble_eq_true rfl) hRs⟩) hS (fun H locs hM hS => ?_)
        refine W.eq (g2 := F0 m 42 ls [.int q12.1]) rfl ?_
        refine lv_if_eq (tgt := 64) hx hb d_Mo_line_42 (by decide) (fun c15 => ?_) (fun c15 => ?_)
        · rw [if_pos c15] at h
          refine lv_bipush (v := (-12)) hx hb d_Mo_line_64 (by decide) ?_
          cases h
          exact W.iret hx hb hr (fun t ht hW => ⟨⟨rfl, by rw [ht]; exact hM⟩, hS.F ht⟩) hS.2.2 d_Mo_line_66
        · rw [if_neg c15] at h
          refine lv_lload hx hb d_Mo_line_45 (lv_at hl 4 rfl) ?_
          refine lv_lconst (v := 0) hx hb d_Mo_line_47 (by decide) ?_
          refine lv_ldc2 (v := 10000) hx hb hown (hts _ wd_115) d_Mo_line_48 ?_
          obtain ⟨q16, e17, h⟩ := mx_b h
          refine gq_go (va_runS (As := [.long v5, .long 0, .long 10000]) (rest := []) ⟨hx, hb, hml, hown, hts⟩ (c_Mo_in l G v5 0 10000 _ _ e17) (cwS 3 hts (gq_gS wd_112 wd_113 wd_114 wd_111) rfl rfl rfl (by decide +kernel) ⟨Nat.le_trans (Nat.le_of_ble_eq_true rfl) hRf, Nat.le_trans (Nat.le_of_ble_eq_true rfl) hRl⟩) (gq_preS hK hN hM hS hb0) rfl rfl hl.1 rfl (lv_room (Nat.le_of_ble_eq_true rfl)) d_Mo_line_51 ⟨Nat.le_trans (Nat.le_of_ble_eq_true rfl) hRc, Nat.le_trans (Nat.le_of_ble_eq_true rfl) hRs⟩) hS (fun H locs hM hS => ?_)
          refine W.eq (g2 := F0 m 54 ls [.int q16.1]) rfl ?_
          refine lv_if_eq (tgt := 64) hx hb d_Mo_line_54 (by decide) (fun c19 => ?_) (fun c19 => ?_)
          · rw [if_pos c19] at h
            refine lv_bipush (v := (-12)) hx hb d_Mo_line_64 (by decide) ?_
            cases h
            exact W.iret hx hb hr (fun t ht hW => ⟨⟨rfl, by rw [ht]; exact hM⟩, hS.F ht⟩) hS.2.2 d_Mo_line_66
          · rw [if_neg c19] at h
            refine lv_lload hx hb d_Mo_line_57 (lv_at hl 4 rfl) ?_
            refine lv_lload_n hx hb d_Mo_line_59 rfl (lv_at hl 3 rfl) ?_
            refine mx_lcmp_gt (tgt := 67) hx hb d_Mo_line_60 d_Mo_line_61 (by decide) (fun c20 => ?_) (fun c20 => ?_)
            · rw [if_pos c20] at h
              refine mx_aload_n hx hb d_Mo_line_67 rfl (lv_at hl 0 rfl) ?_
              obtain ⟨x21, e22, h⟩ := mx_b h
              refine mx_geti hx hb hts i_Mo hown hK hM e22 (ci := 4) (C := R_Mo) (T := T_Mo) (N := 23) rfl 1 (by decide) (hts _ wd_116) d_Mo_line_68 ?_
              refine lv_bipush (v := 12) hx hb d_Mo_line_71 (by decide) ?_
              refine lv_icmp_ne (tgt := 79) hx hb d_Mo_line_73 (by decide) (fun c23 => ?_) (fun c23 => ?_)
              · rw [if_neg c23] at h
                refine mx_aload_n hx hb d_Mo_line_79 rfl (lv_at hl 0 rfl) ?_
                refine lv_dup hx hb d_Mo_line_80 (mx_cat _) ?_
                obtain ⟨x24, e25, h⟩ := mx_b h
                refine mx_geti hx hb hts i_Mo hown hK hM e25 (ci := 4) (C := R_Mo) (T := T_Mo) (N := 23) rfl 1 (by decide) (hts _ wd_116) d_Mo_line_81 ?_
                refine lv_iconst (v := 1) hx hb d_Mo_line_84 (by decide) ?_
                refine lv_iadd hx hb d_Mo_line_85 ?_
                obtain ⟨m26, e27, h⟩ := mx_b h
                refine mx_put hx hb hts i_Mo t_Mo t_Mo_ok n_Mo hown hK hM hS e27 (ci := 4) (C := R_Mo) (T := T_Mo) (N := 23) rfl 1 (by decide) (hts _ wd_116) rfl (ty := .int) (by decide +kernel) rfl rfl d_Mo_line_86 (fun H locs hM hS => ?_)
                refine mx_aload_n hx hb d_Mo_line_89 rfl (lv_at hl 0 rfl) ?_
                obtain ⟨x28, e29, h⟩ := mx_b h
                refine mx_getr hx hb hts i_Mo hown hK hM e29 (ci := 4) (C := R_Mo) (T := T_Mo) (N := 23) rfl 2 (by decide) (hts _ wd_12) d_Mo_line_90 ?_
                refine mx_aload_n hx hb d_Mo_line_93 rfl (lv_at hl 0 rfl) ?_
                obtain ⟨x30, e31, h⟩ := mx_b h
                refine mx_geti hx hb hts i_Mo hown hK hM e31 (ci := 4) (C := R_Mo) (T := T_Mo) (N := 23) rfl 1 (by decide) (hts _ wd_116) d_Mo_line_94 ?_
                refine lv_iload_n hx hb d_Mo_line_97 rfl (lv_at hl 1 rfl) ?_
                obtain ⟨m33, e32, h⟩ := mx_b h
                refine mx_iast hx hb hK hM hS e32 rfl d_Mo_line_98 (fun H locs hM hS => ?_)
                refine mx_aload_n hx hb d_Mo_line_99 rfl (lv_at hl 0 rfl) ?_
                obtain ⟨x34, e35, h⟩ := mx_b h
                refine mx_getr hx hb hts i_Mo hown hK hM e35 (ci := 4) (C := R_Mo) (T := T_Mo) (N := 23) rfl 3 (by decide) (hts _ wd_13) d_Mo_line_100 ?_
                refine mx_aload_n hx hb d_Mo_line_103 rfl (lv_at hl 0 rfl) ?_
                obtain ⟨x36, e37, h⟩ := mx_b h
                refine mx_geti hx hb hts i_Mo hown hK hM e37 (ci := 4) (C := R_Mo) (T := T_Mo) (N := 23) rfl 1 (by decide) (hts _ wd_116) d_Mo_line_104 ?_
                refine lv_iload_n hx hb d_Mo_line_107 rfl (lv_at hl 2 rfl) ?_
                obtain ⟨m39, e38, h⟩ := mx_b h
                refine mx_iast hx hb hK hM hS e38 rfl d_Mo_line_108 (fun H locs hM hS => ?_)
                refine mx_aload_n hx hb d_Mo_line_109 rfl (lv_at hl 0 rfl) ?_
                obtain ⟨x40, e41, h⟩ := mx_b h
                refine mx_getr hx hb hts i_Mo hown hK hM e41 (ci := 4) (C := R_Mo) (T := T_Mo) (N := 23) rfl 4 (by decide) (hts _ wd_15) d_Mo_line_110 ?_
                refine mx_aload_n hx hb d_Mo_line_113 rfl (lv_at hl 0 rfl) ?_
                obtain ⟨x42, e43, h⟩ := mx_b h
                refine mx_geti hx hb hts i_Mo hown hK hM e43 (ci := 4) (C := R_Mo) (T := T_Mo) (N := 23) rfl 1 (by decide) (hts _ wd_116) d_Mo_line_114 ?_
                refine lv_lload_n hx hb d_Mo_line_117 rfl (lv_at hl 3 rfl) ?_
                obtain ⟨m45, e44, h⟩ := mx_b h
                refine mx_last hx hb hK hM hS e44 rfl d_Mo_line_118 (fun H locs hM hS => ?_)
                refine mx_aload_n hx hb d_Mo_line_119 rfl (lv_at hl 0 rfl) ?_
                obtain ⟨x46, e47, h⟩ := mx_b h
                refine mx_getr hx hb hts i_Mo hown hK hM e47 (ci := 4) (C := R_Mo) (T := T_Mo) (N := 23) rfl 5 (by decide) (hts _ wd_16) d_Mo_line_120 ?_
                refine mx_aload_n hx hb d_Mo_line_123 rfl (lv_at hl 0 rfl) ?_
                obtain ⟨x48, e49, h⟩ := mx_b h
                refine mx_geti hx hb hts i_Mo hown hK hM e49 (ci := 4) (C := R_Mo) (T := T_Mo) (N := 23) rfl 1 (by decide) (hts _ wd_116) d_Mo_line_124 ?_
                refine lv_lload hx hb d_Mo_line_127 (lv_at hl 4 rfl) ?_
                obtain ⟨m51, e50, h⟩ := mx_b h
                refine mx_last hx hb hK hM hS e50 rfl d_Mo_line_129 (fun H locs hM hS => ?_)
                refine mx_aload_n hx hb d_Mo_line_130 rfl (lv_at hl 0 rfl) ?_
                obtain ⟨x52, e53, h⟩ := mx_b h
                refine mx_geti hx hb hts i_Mo hown hK hM e53 (ci := 4) (C := R_Mo) (T := T_Mo) (N := 23) rfl 1 (by decide) (hts _ wd_116) d_Mo_line_131 ?_
                cases h
                exact W.iret hx hb hr (fun t ht hW => ⟨⟨rfl, by rw [ht]; exact hM⟩, hS.F ht⟩) hS.2.2 d_Mo_line_134
              · rw [if_pos c23] at h
                refine lv_bipush (v := (-14)) hx hb d_Mo_line_76 (by decide) ?_
                cases h
                exact W.iret hx hb hr (fun t ht hW => ⟨⟨rfl, by rw [ht]; exact hM⟩, hS.F ht⟩) hS.2.2 d_Mo_line_78
            · rw [if_neg c20] at h
              refine lv_bipush (v := (-12)) hx hb d_Mo_line_64 (by decide) ?_
              cases h
              exact W.iret hx hb hr (fun t ht hW => ⟨⟨rfl, by rw [ht]; exact hM⟩, hS.F ht⟩) hS.2.2 d_Mo_line_66
set_option maxHeartbeats 4000000 in
set_option maxRecDepth 100000 in
theorem c_LR_findLine (l : Launch) (G : mx_G) (a0 : Nat) (v1 : Int32) (mem : mx_Mem) (q : Option Nat × mx_Mem) (h : f_LR_findLine a0 v1 mem = some q) : Met l y_LR_findLine (gq_w y_LR_findLine b_LR_findLine 2 (some (.object "LateRoutes$Line"))) { frames := 0, cells := 0, slots := 0, locals := 0 } (gq_P G [.ref a0, .int v1] mem) (gq_Q G (some (va_rf q.1)) q.2) 0 0 (mx_A G) := by
  refine Met.ofW (cc := b_LR_findLine) (maxL := 2) (ret := (some (.object "LateRoutes$Line"))) (by decide) rfl ?_
  intro p e s m args below meth c s₁ B hml hv
  obtain ⟨rfl, hb0, hM, hK, hN⟩ := hv
  have CX : gq_C p (headSpec (gq_w y_LR_findLine b_LR_findLine 2 (some (.object "LateRoutes$Line"))) { frames := 0, cells := 0, slots := 0, locals := 0 }).room s m _ meth c G b_LR_findLine 2 (some (.object "LateRoutes$Line")) R_LR 0 0 0 0 := ⟨B.exec, B.bytes, hml, B.returns, findClass_of_methodNamed B.named, fun w hw => atoms_spec (ws := gq_w y_LR_findLine b_LR_findLine 2 (some (.object "LateRoutes$Line"))) B.pre w (List.mem_cons_of_mem _ hw), B.notSynchronized, hK, hN, hb0, Nat.le_refl _, Nat.le_refl _, Nat.le_refl _, Nat.le_refl _⟩
  obtain ⟨hx, hb, hml, hr, hown, hts, hlocks, hK, hN, hb0, hRf, hRc, hRs, hRl⟩ := id CX
  have hS : va_S (mx_A G) s.heap s.heap [] := va_S.rf
  have hl := lv_entry [.ref a0, .int v1] (n := 2) (Nat.le_of_ble_eq_true rfl)
  rw [lg_entry_eq]
  generalize (lg_sl [.ref a0, .int v1] ++ List.replicate (2 - (lg_sl [.ref a0, .int v1]).length) Slot.unset).toArray = ls at hl ⊢
  have hl : lv_has ls 2 [(0, va_rf (some a0)), (1, .int v1)] := hl
  unfold f_LR_findLine at h
  refine lv_iload_n hx hb d_LR_findLine_0 rfl (lv_at hl 1 rfl) ?_
  refine lv_iconst (v := 1) hx hb d_LR_findLine_1 (by decide) ?_
  refine lv_icmp_lt (tgt := 24) hx hb d_LR_findLine_2 (by decide) (fun c1 => ?_) (fun c1 => ?_)
  · rw [if_pos c1] at h
    refine mx_null hx hb d_LR_findLine_24 ?_
    cases h
    exact W.aret hx hb hr (Or.inl ⟨_, rfl⟩) (va_rf_or _) (fun t ht hW => ⟨⟨rfl, by rw [ht]; exact hM⟩, hS.F ht⟩) hS.2.2 d_LR_findLine_25
  · rw [if_neg c1] at h
    refine lv_iload_n hx hb d_LR_findLine_5 rfl (lv_at hl 1 rfl) ?_
    refine mx_aload_n hx hb d_LR_findLine_6 rfl (lv_at hl 0 rfl) ?_
    obtain ⟨x2, e3, h⟩ := mx_b h
    refine mx_geti hx hb hts i_LR hown hK hM e3 (ci := 0) (C := R_LR) (T := T_LR) (N := 5) rfl 1 (by decide) (hts _ wd_8) d_LR_findLine_7 ?_
    refine lv_icmp_gt (tgt := 24) hx hb d_LR_findLine_10 (by decide) (fun c4 => ?_) (fun c4 => ?_)
    · rw [if_pos c4] at h
      refine mx_null hx hb d_LR_findLine_24 ?_
      cases h
      exact W.aret hx hb hr (Or.inl ⟨_, rfl⟩) (va_rf_or _) (fun t ht hW => ⟨⟨rfl, by rw [ht]; exact hM⟩, hS.F ht⟩) hS.2.2 d_LR_findLine_25
    · rw [if_neg c4] at h
      refine mx_aload_n hx hb d_LR_findLine_13 rfl (lv_at hl 0 rfl) ?_
      obtain ⟨x5, e6, h⟩ := mx_b h
      refine mx_getr hx hb hts i_LR hown hK hM e6 (ci := 0) (C := R_LR) (T := T_LR) (N := 5) rfl 0 (by decide) (hts _ wd_4) d_LR_findLine_14 ?_
      refine lv_iload_n hx hb d_LR_findLine_17 rfl (lv_at hl 1 rfl) ?_
      refine lv_iconst (v := 1) hx hb d_LR_findLine_18 (by decide) ?_
      refine lv_isub hx hb d_LR_findLine_19 ?_
      obtain ⟨x7, e8, h⟩ := mx_b h
      refine mx_aald hx hb hK hM e8 rfl d_LR_findLine_20 ?_
      refine lv_goto (tgt := 25) hx hb d_LR_findLine_21 (by decide) ?_
      cases h
      exact W.aret hx hb hr (Or.inl ⟨_, rfl⟩) (va_rf_or _) (fun t ht hW => ⟨⟨rfl, by rw [ht]; exact hM⟩, hS.F ht⟩) hS.2.2 d_LR_findLine_25
set_option maxHeartbeats 4000000 in
set_option maxRecDepth 100000 in
theorem c_Lo_init (l : Launch) (G : mx_G) (a0 : Nat) (v1 : Option Nat) (v2 : Int32) (v3 : Int64) (v5 : Int32) (mem : mx_Mem) (q : mx_Mem) (h : f_Lo_init a0 v1 v2 v3 v5 mem = some q) : Met l y_Lo_init (gq_w y_Lo_init b_Lo_init 6 none) { frames := 1, cells := 1, slots := 4, locals := 12 } (gq_P G [.ref a0, va_rf v1, .int v2, .long v3, .int v5] mem) (gq_Q G none q) 1 4 (mx_A G) := by
  refine Met.ofW (cc := b_Lo_init) (maxL := 6) (ret := none) (by decide) rfl ?_
  intro p e s m args below meth c s₁ B hml hv
  obtain ⟨rfl, hb0, hM, hK, hN⟩ := hv
  have CX : gq_C p (headSpec (gq_w y_Lo_init b_Lo_init 6 none) { frames := 1, cells := 1, slots := 4, locals := 12 }).room s m _ meth c G b_Lo_init 6 none R_Lo 1 1 4 12 := ⟨B.exec, B.bytes, hml, B.returns, findClass_of_methodNamed B.named, fun w hw => atoms_spec (ws := gq_w y_Lo_init b_Lo_init 6 none) B.pre w (List.mem_cons_of_mem _ hw), B.notSynchronized, hK, hN, hb0, Nat.le_refl _, Nat.le_refl _, Nat.le_refl _, Nat.le_refl _⟩
  have hin : meth.name = "<init>" := (name_of_methodNamed B.named B.method).1
  obtain ⟨hx, hb, hml, hr, hown, hts, hlocks, hK, hN, hb0, hRf, hRc, hRs, hRl⟩ := id CX
  have hS : va_S (mx_A G) s.heap s.heap [] := va_S.rf
  have hl := lv_entry [.ref a0, va_rf v1, .int v2, .long v3, .int v5] (n := 6) (by simp [lg_sl, mx_cat, mx_cati, mx_catl, mx_catr])
  rw [lg_entry_eq]
  generalize (lg_sl [.ref a0, va_rf v1, .int v2, .long v3, .int v5] ++ List.replicate (6 - (lg_sl [.ref a0, va_rf v1, .int v2, .long v3, .int v5]).length) Slot.unset).toArray = ls at hl ⊢
  have hl : lv_has ls 6 [(0, va_rf (some a0)), (1, va_rf v1), (2, .int v2), (3, .long v3), (5, .int v5)] := by have h9 := hl; simp [lv_args, mx_cat, mx_cati, mx_catl, mx_catr] at h9; exact h9
  unfold f_Lo_init at h
  refine mx_aload_n hx hb d_Lo_init_0 rfl (lv_at hl 0 rfl) ?_
  refine W.objInit hx hb hown (hts _ wd_117) (hts _ wd_1) (hts _ wd_2) rfl (by rw [hml]; exact hl.1) rfl d_Lo_init_1 (Nat.le_trans (Nat.le_of_ble_eq_true rfl) hRf) (Nat.le_trans (Nat.le_of_ble_eq_true rfl) hRl) ?_
  refine W.eq (g2 := F0 m 4 ls []) rfl ?_
  refine mx_aload_n hx hb d_Lo_init_4 rfl (lv_at hl 0 rfl) ?_
  refine lv_iconst (v := 4) hx hb d_Lo_init_5 (by decide) ?_
  obtain ⟨m1, e2, h⟩ := mx_b h
  refine mx_newq (kd := 2) (N' := 4) hx hb hown (hts _ wd_118) (va_AO.use (hN _ nw_6)) hK hM hS hb0 rfl (by decide) (by decide) (by decide) e2 d_Lo_init_6 (Nat.le_trans (Nat.le_of_ble_eq_true rfl) hRc) (Nat.le_trans (Nat.le_of_ble_eq_true rfl) hRs) (fun H hM hS => ?_)
  refine W.widen (k := 1) (n := 4) (by decide) (by decide) ?_
  obtain ⟨m3, e4, h⟩ := mx_b h
  refine mx_putF hx hb hts i_Lo t_Lo t_Lo_ok n_Lo hown hK hM hS e4 (ci := 3) (C := R_Lo) (T := T_Lo) (N := 12) rfl 4 (by decide) (hts _ wd_50) rfl hin rfl (ty := (.array (.object "LateRoutes$Option"))) (by decide +kernel) (mx_arr_nar _) (mx_arr_fit _) d_Lo_init_9 (fun H locs hM hS => ?_)
  refine mx_aload_n hx hb d_Lo_init_12 rfl (lv_at hl 0 rfl) ?_
  refine mx_aload_n hx hb d_Lo_init_13 rfl (lv_at hl 1 rfl) ?_
  obtain ⟨m5, e6, h⟩ := mx_b h
  refine mx_putF hx hb hts i_Lo t_Lo t_Lo_ok n_Lo hown hK hM hS e6 (ci := 3) (C := R_Lo) (T := T_Lo) (N := 12) rfl 0 (by decide) (hts _ wd_55) rfl hin rfl (ty := (.object "LateRoutes$Line")) (by decide +kernel) (mx_ref_nar _) (mx_ref_fit _) d_Lo_init_14 (fun H locs hM hS => ?_)
  refine mx_aload_n hx hb d_Lo_init_17 rfl (lv_at hl 0 rfl) ?_
  refine lv_iload_n hx hb d_Lo_init_18 rfl (lv_at hl 2 rfl) ?_
  obtain ⟨m7, e8, h⟩ := mx_b h
  refine mx_putF hx hb hts i_Lo t_Lo t_Lo_ok n_Lo hown hK hM hS e8 (ci := 3) (C := R_Lo) (T := T_Lo) (N := 12) rfl 1 (by decide) (hts _ wd_72) rfl hin rfl (ty := .int) (by decide +kernel) rfl rfl d_Lo_init_19 (fun H locs hM hS => ?_)
  refine mx_aload_n hx hb d_Lo_init_22 rfl (lv_at hl 0 rfl) ?_
  refine lv_lload_n hx hb d_Lo_init_23 rfl (lv_at hl 3 rfl) ?_
  obtain ⟨m9, e10, h⟩ := mx_b h
  refine mx_putF hx hb hts i_Lo t_Lo t_Lo_ok n_Lo hown hK hM hS e10 (ci := 3) (C := R_Lo) (T := T_Lo) (N := 12) rfl 2 (by decide) (hts _ wd_119) rfl hin rfl (ty := .long) (by decide +kernel) rfl rfl d_Lo_init_24 (fun H locs hM hS => ?_)
  refine mx_aload_n hx hb d_Lo_init_27 rfl (lv_at hl 0 rfl) ?_
  refine lv_iload hx hb d_Lo_init_28 (lv_at hl 4 rfl) ?_
  obtain ⟨m11, e12, h⟩ := mx_b h
  refine mx_putF hx hb hts i_Lo t_Lo t_Lo_ok n_Lo hown hK hM hS e12 (ci := 3) (C := R_Lo) (T := T_Lo) (N := 12) rfl 3 (by decide) (hts _ wd_120) rfl hin rfl (ty := .int) (by decide +kernel) rfl rfl d_Lo_init_30 (fun H locs hM hS => ?_)
  refine mx_aload_n hx hb d_Lo_init_33 rfl (lv_at hl 0 rfl) ?_
  refine lv_iconst (v := 0) hx hb d_Lo_init_34 (by decide) ?_
  obtain ⟨m13, e14, h⟩ := mx_b h
  refine mx_put hx hb hts i_Lo t_Lo t_Lo_ok n_Lo hown hK hM hS e14 (ci := 3) (C := R_Lo) (T := T_Lo) (N := 12) rfl 5 (by decide) (hts _ wd_49) rfl (ty := .int) (by decide +kernel) rfl rfl d_Lo_init_35 (fun H locs hM hS => ?_)
  refine mx_aload_n hx hb d_Lo_init_38 rfl (lv_at hl 0 rfl) ?_
  refine lv_iconst (v := (-1)) hx hb d_Lo_init_39 (by decide) ?_
  obtain ⟨m15, e16, h⟩ := mx_b h
  refine mx_put hx hb hts i_Lo t_Lo t_Lo_ok n_Lo hown hK hM hS e16 (ci := 3) (C := R_Lo) (T := T_Lo) (N := 12) rfl 6 (by decide) (hts _ wd_48) rfl (ty := .int) (by decide +kernel) rfl rfl d_Lo_init_40 (fun H locs hM hS => ?_)
  refine mx_aload_n hx hb d_Lo_init_43 rfl (lv_at hl 0 rfl) ?_
  refine lv_iconst (v := (-1)) hx hb d_Lo_init_44 (by decide) ?_
  obtain ⟨m17, e18, h⟩ := mx_b h
  refine mx_put hx hb hts i_Lo t_Lo t_Lo_ok n_Lo hown hK hM hS e18 (ci := 3) (C := R_Lo) (T := T_Lo) (N := 12) rfl 7 (by decide) (hts _ wd_121) rfl (ty := .int) (by decide +kernel) rfl rfl d_Lo_init_45 (fun H locs hM hS => ?_)
  cases h
  exact W.vret hx hb hr (fun t ht hW => ⟨⟨rfl, by rw [ht]; exact hM⟩, hS.F ht⟩) hS.2.2 d_Lo_init_48
end
section
set_option maxHeartbeats 4000000 in
set_option maxRecDepth 100000 in
theorem wfl_LR_fileByLeaving_5 {p : Program} {l : Launch} {e : Env} {R : Room} {s : State} {m : MethodId} {args : Array Value} {below : List Frame} {meth : Method} {c : Code} {G : mx_G} (q : mx_Mem) (CX : gq_C p R s m args meth c G b_LR_fileByLeaving 3 none R_LR 0 0 0 0)  : ∀ (n : Nat) (v0 : Option Nat) (v1 : Option Nat) (v2 : Int32) (mem : mx_Mem), fl_LR_fileByLeaving_5  n v0 v1 v2 mem = some q → ∀ (H : Heap) (locs : List Loc) (ls : Array Slot), lv_has ls 3 [(0, va_rf v0), (1, va_rf v1), (2, .int v2)] → mx_M vwCl G mem H → va_S (mx_A G) s.heap H locs → W p l e R s m args below meth c H locs 0 0 (MQ below (gq_Q G none q) args s 0 0 (mx_A G)) (F0 m 5 ls []) := by
  obtain ⟨hx, hb, hml, hr, hown, hts, hlocks, hK, hN, hb0, hRf, hRc, hRs, hRl⟩ := id CX
  intro n
  induction n with
  | zero => intro v0 v1 v2 mem h; rw [fl_LR_fileByLeaving_5] at h; cases h
  | succ n ih =>
    intro v0 v1 v2 mem h H locs ls hl hM hS
    rw [fl_LR_fileByLeaving_5] at h
    refine lv_iload_n hx hb d_LR_fileByLeaving_5 rfl (lv_at hl 2 rfl) ?_
    refine lv_if_le (tgt := 54) hx hb d_LR_fileByLeaving_6 (by decide) (fun c1 => ?_) (fun c1 => ?_)
    · rw [if_pos c1] at h
      refine mx_aload_n hx hb d_LR_fileByLeaving_54 rfl (lv_at hl 0 rfl) ?_
      obtain ⟨x2, e3, h⟩ := mx_b h
      refine mx_getr hx hb hts i_LR hown hK hM e3 (ci := 0) (C := R_LR) (T := T_LR) (N := 5) rfl 3 (by decide) (hts _ wd_7) d_LR_fileByLeaving_55 ?_
      refine lv_iload_n hx hb d_LR_fileByLeaving_58 rfl (lv_at hl 2 rfl) ?_
      refine mx_aload_n hx hb d_LR_fileByLeaving_59 rfl (lv_at hl 1 rfl) ?_
      obtain ⟨_, e4, h⟩ := mx_b h
      obtain ⟨m6, e5, h⟩ := mx_b h
      refine mx_aast hx hb hK hM hS e4 e5 rfl rfl d_LR_fileByLeaving_60 (fun H locs hM hS => ?_)
      cases h
      exact W.vret hx hb hr (fun t ht hW => ⟨⟨rfl, by rw [ht]; exact hM⟩, hS.F ht⟩) hS.2.2 d_LR_fileByLeaving_61
    · rw [if_neg c1] at h
      refine mx_aload_n hx hb d_LR_fileByLeaving_9 rfl (lv_at hl 0 rfl) ?_
      obtain ⟨x2, e3, h⟩ := mx_b h
      refine mx_getr hx hb hts i_LR hown hK hM e3 (ci := 0) (C := R_LR) (T := T_LR) (N := 5) rfl 3 (by decide) (hts _ wd_7) d_LR_fileByLeaving_10 ?_
      refine lv_iload_n hx hb d_LR_fileByLeaving_13 rfl (lv_at hl 2 rfl) ?_
      refine lv_iconst (v := 1) hx hb d_LR_fileByLeaving_14 (by decide) ?_
      refine lv_isub hx hb d_LR_fileByLeaving_15 ?_
      obtain ⟨x4, e5, h⟩ := mx_b h
      refine mx_aald hx hb hK hM e5 rfl d_LR_fileByLeaving_16 ?_
      obtain ⟨x6, e7, h⟩ := mx_b h
      refine mx_getrN hx hb hts i_Lo hown hK hM e7 (ci := 3) (C := R_Lo) (T := T_Lo) (N := 12) rfl 0 (by decide) (va_Nw.use rfl (hN _ nw_7)) d_LR_fileByLeaving_17 ?_
      obtain ⟨x8, e9, h⟩ := mx_b h
      refine mx_getlN hx hb hts i_Li hown hK hM e9 (ci := 1) (C := R_Li) (T := T_Li) (N := 8) rfl 3 (by decide) (va_Nw.use rfl (hN _ nw_8)) d_LR_fileByLeaving_20 ?_
      refine mx_aload_n hx hb d_LR_fileByLeaving_23 rfl (lv_at hl 1 rfl) ?_
      obtain ⟨x10, e11, h⟩ := mx_b h
      refine mx_getrN hx hb hts i_Lo hown hK hM e11 (ci := 3) (C := R_Lo) (T := T_Lo) (N := 12) rfl 0 (by decide) (va_Nw.use rfl (hN _ nw_7)) d_LR_fileByLeaving_24 ?_
      obtain ⟨x12, e13, h⟩ := mx_b h
      refine mx_getlN hx hb hts i_Li hown hK hM e13 (ci := 1) (C := R_Li) (T := T_Li) (N := 8) rfl 3 (by decide) (va_Nw.use rfl (hN _ nw_8)) d_LR_fileByLeaving_27 ?_
      refine mx_lcmp_le (tgt := 54) hx hb d_LR_fileByLeaving_30 d_LR_fileByLeaving_31 (by decide) (fun c14 => ?_) (fun c14 => ?_)
      · rw [if_pos c14] at h
        refine mx_aload_n hx hb d_LR_fileByLeaving_54 rfl (lv_at hl 0 rfl) ?_
        obtain ⟨x15, e16, h⟩ := mx_b h
        refine mx_getr hx hb hts i_LR hown hK hM e16 (ci := 0) (C := R_LR) (T := T_LR) (N := 5) rfl 3 (by decide) (hts _ wd_7) d_LR_fileByLeaving_55 ?_
        refine lv_iload_n hx hb d_LR_fileByLeaving_58 rfl (lv_at hl 2 rfl) ?_
        refine mx_aload_n hx hb d_LR_fileByLeaving_59 rfl (lv_at hl 1 rfl) ?_
        obtain ⟨_, e17, h⟩ := mx_b h
        obtain ⟨m19, e18, h⟩ := mx_b h
        refine mx_aast hx hb hK hM hS e17 e18 rfl rfl d_LR_fileByLeaving_60 (fun H locs hM hS => ?_)
        cases h
        exact W.vret hx hb hr (fun t ht hW => ⟨⟨rfl, by rw [ht]; exact hM⟩, hS.F ht⟩) hS.2.2 d_LR_fileByLeaving_61
      · rw [if_neg c14] at h
        refine mx_aload_n hx hb d_LR_fileByLeaving_34 rfl (lv_at hl 0 rfl) ?_
        obtain ⟨x15, e16, h⟩ := mx_b h
        refine mx_getr hx hb hts i_LR hown hK hM e16 (ci := 0) (C := R_LR) (T := T_LR) (N := 5) rfl 3 (by decide) (hts _ wd_7) d_LR_fileByLeaving_35 ?_
        refine lv_iload_n hx hb d_LR_fileByLeaving_38 rfl (lv_at hl 2 rfl) ?_
        refine mx_aload_n hx hb d_LR_fileByLeaving_39 rfl (lv_at hl 0 rfl) ?_
        obtain ⟨x17, e18, h⟩ := mx_b h
        refine mx_getr hx hb hts i_LR hown hK hM e18 (ci := 0) (C := R_LR) (T := T_LR) (N := 5) rfl 3 (by decide) (hts _ wd_7) d_LR_fileByLeaving_40 ?_
        refine lv_iload_n hx hb d_LR_fileByLeaving_43 rfl (lv_at hl 2 rfl) ?_
        refine lv_iconst (v := 1) hx hb d_LR_fileByLeaving_44 (by decide) ?_
        refine lv_isub hx hb d_LR_fileByLeaving_45 ?_
        obtain ⟨x19, e20, h⟩ := mx_b h
        refine mx_aald hx hb hK hM e20 rfl d_LR_fileByLeaving_46 ?_
        obtain ⟨_, e21, h⟩ := mx_b h
        obtain ⟨m23, e22, h⟩ := mx_b h
        refine mx_aast hx hb hK hM hS e21 e22 rfl rfl d_LR_fileByLeaving_47 (fun H locs hM hS => ?_)
        refine lv_iinc (v := (v2 + (-1))) (lv' := [(2, .int ((v2 + (-1)))), (0, va_rf v0), (1, va_rf v1)]) hx hb d_LR_fileByLeaving_48 hl (k := 2) rfl rfl (by decide) (by simp [mx_cat, mx_cati, mx_catl, mx_catr]) (fun ls hl => ?_)
        refine lv_goto (tgt := 5) hx hb d_LR_fileByLeaving_51 (by decide) ?_
        exact ih _ _ _ _ h _ _ _ (lv_sub hl [1, 2, 0] rfl) hM hS
set_option maxHeartbeats 4000000 in
set_option maxRecDepth 100000 in
theorem c_LR_fileByLeaving (l : Launch) (G : mx_G) (a0 : Nat) (v1 : Option Nat) (mem : mx_Mem) (q : mx_Mem) (h : f_LR_fileByLeaving a0 v1 mem = some q) : Met l y_LR_fileByLeaving (gq_w y_LR_fileByLeaving b_LR_fileByLeaving 3 none) { frames := 0, cells := 0, slots := 0, locals := 0 } (gq_P G [.ref a0, va_rf v1] mem) (gq_Q G none q) 0 0 (mx_A G) := by
  refine Met.ofW (cc := b_LR_fileByLeaving) (maxL := 3) (ret := none) (by decide) rfl ?_
  intro p e s m args below meth c s₁ B hml hv
  obtain ⟨rfl, hb0, hM, hK, hN⟩ := hv
  have CX : gq_C p (headSpec (gq_w y_LR_fileByLeaving b_LR_fileByLeaving 3 none) { frames := 0, cells := 0, slots := 0, locals := 0 }).room s m _ meth c G b_LR_fileByLeaving 3 none R_LR 0 0 0 0 := ⟨B.exec, B.bytes, hml, B.returns, findClass_of_methodNamed B.named, fun w hw => atoms_spec (ws := gq_w y_LR_fileByLeaving b_LR_fileByLeaving 3 none) B.pre w (List.mem_cons_of_mem _ hw), B.notSynchronized, hK, hN, hb0, Nat.le_refl _, Nat.le_refl _, Nat.le_refl _, Nat.le_refl _⟩
  obtain ⟨hx, hb, hml, hr, hown, hts, hlocks, hK, hN, hb0, hRf, hRc, hRs, hRl⟩ := id CX
  have hS : va_S (mx_A G) s.heap s.heap [] := va_S.rf
  have hl := lv_entry [.ref a0, va_rf v1] (n := 3) (by simp [lg_sl, mx_cat, mx_cati, mx_catl, mx_catr])
  rw [lg_entry_eq]
  generalize (lg_sl [.ref a0, va_rf v1] ++ List.replicate (3 - (lg_sl [.ref a0, va_rf v1]).length) Slot.unset).toArray = ls at hl ⊢
  have hl : lv_has ls 3 [(0, va_rf (some a0)), (1, va_rf v1)] := by have h9 := hl; simp [lv_args, mx_cat, mx_cati, mx_catl, mx_catr] at h9; exact h9
  unfold f_LR_fileByLeaving at h
  refine mx_aload_n hx hb d_LR_fileByLeaving_0 rfl (lv_at hl 0 rfl) ?_
  obtain ⟨x1, e2, h⟩ := mx_b h
  refine mx_geti hx hb hts i_LR hown hK hM e2 (ci := 0) (C := R_LR) (T := T_LR) (N := 5) rfl 4 (by decide) (hts _ wd_9) d_LR_fileByLeaving_1 ?_
  refine lv_istore_n (lv' := [(2, .int x1), (0, va_rf (some a0)), (1, va_rf v1)]) hx hb d_LR_fileByLeaving_4 rfl hl (by decide) (by simp [mx_cat, mx_cati, mx_catl, mx_catr]) (fun ls hl => ?_)
  refine wfl_LR_fileByLeaving_5 q CX  5000 _ _ _ _ h _ _ _ (lv_sub hl [1, 2, 0] rfl) hM hS
set_option maxHeartbeats 4000000 in
set_option maxRecDepth 100000 in
theorem c_LR_load (l : Launch) (G : mx_G) (a0 : Nat) (v1 : Int32) (v2 : Int32) (v3 : Int64) (v5 : Int32) (mem : mx_Mem) (q : Int32 × mx_Mem) (h : f_LR_load a0 v1 v2 v3 v5 mem = some q) : Met l y_LR_load (gq_w y_LR_load b_LR_load 8 (some .int)) { frames := 4, cells := 2, slots := 16, locals := 80 } (gq_P G [.ref a0, .int v1, .int v2, .long v3, .int v5] mem) (gq_Q G (some (.int q.1)) q.2) 2 16 (mx_A G) := by
  refine Met.ofW (cc := b_LR_load) (maxL := 8) (ret := (some .int)) (by decide) rfl ?_
  intro p e s m args below meth c s₁ B hml hv
  obtain ⟨rfl, hb0, hM, hK, hN⟩ := hv
  have CX : gq_C p (headSpec (gq_w y_LR_load b_LR_load 8 (some .int)) { frames := 4, cells := 2, slots := 16, locals := 80 }).room s m _ meth c G b_LR_load 8 (some .int) R_LR 4 2 16 80 := ⟨B.exec, B.bytes, hml, B.returns, findClass_of_methodNamed B.named, fun w hw => atoms_spec (ws := gq_w y_LR_load b_LR_load 8 (some .int)) B.pre w (List.mem_cons_of_mem _ hw), B.notSynchronized, hK, hN, hb0, Nat.le_refl _, Nat.le_refl _, Nat.le_refl _, Nat.le_refl _⟩
  obtain ⟨hx, hb, hml, hr, hown, hts, hlocks, hK, hN, hb0, hRf, hRc, hRs, hRl⟩ := id CX
  have hS : va_S (mx_A G) s.heap s.heap [] := va_S.rf
  have hl := lv_entry [.ref a0, .int v1, .int v2, .long v3, .int v5] (n := 8) (Nat.le_of_ble_eq_true rfl)
  rw [lg_entry_eq]
  generalize (lg_sl [.ref a0, .int v1, .int v2, .long v3, .int v5] ++ List.replicate (8 - (lg_sl [.ref a0, .int v1, .int v2, .long v3, .int v5]).length) Slot.unset).toArray = ls at hl ⊢
  have hl : lv_has ls 8 [(0, va_rf (some a0)), (1, .int v1), (2, .int v2), (3, .long v3), (5, .int v5)] := hl
  unfold f_LR_load at h
  refine mx_aload_n hx hb d_LR_load_0 rfl (lv_at hl 0 rfl) ?_
  refine lv_iload_n hx hb d_LR_load_1 rfl (lv_at hl 1 rfl) ?_
  obtain ⟨a4, e3, h⟩ := mx_b h
  obtain ⟨q1, e2, h⟩ := mx_b h
  have e5 := mx_c_eq e3
  refine W.eq (g2 := F0 m 2 ls [.int v1, .ref a4]) (congrArg (fun z => F0 m 2 ls [.int v1, va_rf z]) e5) ?_
  refine gq_go (va_runV (b := a4) (As := [.int v1]) (rest := []) ⟨hx, hb, hml, hown, hts⟩ (c_LR_findLine l G a4 v1 _ _ e2) (cwV 1 hts (gq_gV wd_123 wd_124 wd_125 wd_38 wd_122) rfl rfl rfl (by decide +kernel) ⟨Nat.le_trans (Nat.le_of_ble_eq_true rfl) hRf, Nat.le_trans (Nat.le_of_ble_eq_true rfl) hRl⟩) (gq_preV hK hN hM hS hb0 e3 (C := R_LR) (T := T_LR) (N := 5) rfl) rfl rfl hl.1 rfl (lv_room (Nat.le_of_ble_eq_true rfl)) d_LR_load_2 ⟨Nat.le_trans (Nat.le_of_ble_eq_true rfl) hRc, Nat.le_trans (Nat.le_of_ble_eq_true rfl) hRs⟩) hS (fun H locs hM hS => ?_)
  refine W.eq (g2 := F0 m 5 ls [va_rf q1.1]) rfl ?_
  refine mx_astore (lv' := [(6, va_rf q1.1), (0, va_rf (some a0)), (1, .int v1), (2, .int v2), (3, .long v3), (5, .int v5)]) hx hb d_LR_load_5 hl (by decide) rfl (fun ls hl => ?_)
  refine mx_aload hx hb d_LR_load_7 (lv_at hl 0 rfl) ?_
  refine mx_ifnonnull (tgt := 15) hx hb d_LR_load_9 (by decide) (fun c6 => ?_) (fun c6 => ?_)
  · rw [if_neg c6] at h
    refine lv_iload_n hx hb d_LR_load_15 rfl (lv_at hl 3 rfl) ?_
    obtain ⟨q7, e8, h⟩ := mx_b h
    refine gq_go (va_runS (As := [.int v2]) (rest := []) ⟨hx, hb, hml, hown, hts⟩ (c_LR_isPlace l G v2 _ _ e8) (cwS 1 hts (gq_gS wd_98 wd_99 wd_38 wd_97) rfl rfl rfl (by decide +kernel) ⟨Nat.le_trans (Nat.le_of_ble_eq_true rfl) hRf, Nat.le_trans (Nat.le_of_ble_eq_true rfl) hRl⟩) (gq_preS hK hN hM hS hb0) rfl rfl hl.1 rfl (lv_room (Nat.le_of_ble_eq_true rfl)) d_LR_load_16 ⟨Nat.le_trans (Nat.le_of_ble_eq_true rfl) hRc, Nat.le_trans (Nat.le_of_ble_eq_true rfl) hRs⟩) hS (fun H locs hM hS => ?_)
    refine W.eq (g2 := F0 m 19 ls [.int q7.1]) rfl ?_
    refine lv_if_eq (tgt := 46) hx hb d_LR_load_19 (by decide) (fun c10 => ?_) (fun c10 => ?_)
    · rw [if_pos c10] at h
      refine lv_bipush (v := (-12)) hx hb d_LR_load_46 (by decide) ?_
      cases h
      refine W.widen (k := 2) (n := 16) (by decide) (by decide) ?_
      exact W.iret hx hb hr (fun t ht hW => ⟨⟨rfl, by rw [ht]; exact hM⟩, hS.F ht⟩) hS.2.2 d_LR_load_48
    · rw [if_neg c10] at h
      refine lv_lload_n hx hb d_LR_load_22 rfl (lv_at hl 4 rfl) ?_
      refine lv_lconst (v := 0) hx hb d_LR_load_23 (by decide) ?_
      refine lv_ldc2 (v := 20000) hx hb hown (hts _ wd_126) d_LR_load_24 ?_
      obtain ⟨q11, e12, h⟩ := mx_b h
      refine gq_go (va_runS (As := [.long v3, .long 0, .long 20000]) (rest := []) ⟨hx, hb, hml, hown, hts⟩ (c_LR_isWithin l G v3 0 20000 _ _ e12) (cwS 3 hts (gq_gS wd_36 wd_37 wd_38 wd_35) rfl rfl rfl (by decide +kernel) ⟨Nat.le_trans (Nat.le_of_ble_eq_true rfl) hRf, Nat.le_trans (Nat.le_of_ble_eq_true rfl) hRl⟩) (gq_preS hK hN hM hS hb0) rfl rfl hl.1 rfl (lv_room (Nat.le_of_ble_eq_true rfl)) d_LR_load_27 ⟨Nat.le_trans (Nat.le_of_ble_eq_true rfl) hRc, Nat.le_trans (Nat.le_of_ble_eq_true rfl) hRs⟩) hS (fun H locs hM hS => ?_)
      refine W.eq (g2 := F0 m 30 ls [.int q11.1]) rfl ?_
      refine lv_if_eq (tgt := 46) hx hb d_LR_load_30 (by decide) (fun c14 => ?_) (fun c14 => ?_)
      · rw [if_pos c14] at h
        refine lv_bipush (v := (-12)) hx hb d_LR_load_46 (by decide) ?_
        cases h
        refine W.widen (k := 2) (n := 16) (by decide) (by decide) ?_
        exact W.iret hx hb hr (fun t ht hW => ⟨⟨rfl, by rw [ht]; exact hM⟩, hS.F ht⟩) hS.2.2 d_LR_load_48
      · rw [if_neg c14] at h
        refine lv_iload hx hb d_LR_load_33 (lv_at hl 5 rfl) ?_
        refine lv_i2l hx hb d_LR_load_35 rfl ?_
        refine lv_lconst (v := 1) hx hb d_LR_load_36 (by decide) ?_
        refine lv_ldc2 (v := 100) hx hb hown (hts _ wd_127) d_LR_load_37 ?_
        obtain ⟨q15, e16, h⟩ := mx_b h
        refine gq_go (va_runS (As := [.long v5.toInt64, .long 1, .long 100]) (rest := []) ⟨hx, hb, hml, hown, hts⟩ (c_LR_isWithin l G v5.toInt64 1 100 _ _ e16) (cwS 3 hts (gq_gS wd_36 wd_37 wd_38 wd_35) rfl rfl rfl (by decide +kernel) ⟨Nat.le_trans (Nat.le_of_ble_eq_true rfl) hRf, Nat.le_trans (Nat.le_of_ble_eq_true rfl) hRl⟩) (gq_preS hK hN hM hS hb0) rfl rfl hl.1 rfl (lv_room (Nat.le_of_ble_eq_true rfl)) d_LR_load_40 ⟨Nat.le_trans (Nat.le_of_ble_eq_true rfl) hRc, Nat.le_trans (Nat.le_of_ble_eq_true rfl) hRs⟩) hS (fun H locs hM hS => ?_)
        refine W.eq (g2 := F0 m 43 ls [.int q15.1]) rfl ?_
        refine lv_if_ne (tgt := 49) hx hb d_LR_load_43 (by decide) (fun c18 => ?_) (fun c18 => ?_)
        · rw [if_neg c18] at h
          refine mx_aload_n hx hb d_LR_load_49 rfl (lv_at hl 1 rfl) ?_
          obtain ⟨x19, e20, h⟩ := mx_b h
          refine mx_geti hx hb hts i_LR hown hK hM e20 (ci := 0) (C := R_LR) (T := T_LR) (N := 5) rfl 4 (by decide) (hts _ wd_9) d_LR_load_50 ?_
          refine mx_aload_n hx hb d_LR_load_53 rfl (lv_at hl 1 rfl) ?_
          obtain ⟨x21, e22, h⟩ := mx_b h
          refine mx_getr hx hb hts i_LR hown hK hM e22 (ci := 0) (C := R_LR) (T := T_LR) (N := 5) rfl 2 (by decide) (hts _ wd_6) d_LR_load_54 ?_
          obtain ⟨x23, e24, h⟩ := mx_b h
          refine mx_alen hx hb hK hM e24 rfl d_LR_load_57 ?_
          refine lv_icmp_ge (tgt := 73) hx hb d_LR_load_58 (by decide) (fun c25 => ?_) (fun c25 => ?_)
          · rw [if_pos c25] at h
            refine lv_bipush (v := (-14)) hx hb d_LR_load_73 (by decide) ?_
            cases h
            refine W.widen (k := 2) (n := 16) (by decide) (by decide) ?_
            exact W.iret hx hb hr (fun t ht hW => ⟨⟨rfl, by rw [ht]; exact hM⟩, hS.F ht⟩) hS.2.2 d_LR_load_75
          · rw [if_neg c25] at h
            refine mx_aload_n hx hb d_LR_load_61 rfl (lv_at hl 1 rfl) ?_
            obtain ⟨x26, e27, h⟩ := mx_b h
            refine mx_geti hx hb hts i_LR hown hK hM e27 (ci := 0) (C := R_LR) (T := T_LR) (N := 5) rfl 4 (by decide) (hts _ wd_9) d_LR_load_62 ?_
            refine mx_aload_n hx hb d_LR_load_65 rfl (lv_at hl 1 rfl) ?_
            obtain ⟨x28, e29, h⟩ := mx_b h
            refine mx_getr hx hb hts i_LR hown hK hM e29 (ci := 0) (C := R_LR) (T := T_LR) (N := 5) rfl 3 (by decide) (hts _ wd_7) d_LR_load_66 ?_
            obtain ⟨x30, e31, h⟩ := mx_b h
            refine mx_alen hx hb hK hM e31 rfl d_LR_load_69 ?_
            refine lv_icmp_lt (tgt := 76) hx hb d_LR_load_70 (by decide) (fun c32 => ?_) (fun c32 => ?_)
            · rw [if_pos c32] at h
              obtain ⟨m33, e34, h⟩ := mx_b h
              refine mx_new (ci := 3) (fs := [.null, .int 0, .long 0, .int 0, .null, .int 0, .int 0, .int 0, .long 0, .long 0, .long 0, .int 0]) (C := R_Lo) (T := T_Lo) (N := 12) hx hb hts i_Lo t_Lo t_Lo_ok hown (hts _ wd_5) (hts _ wd_128) (hts _ wd_66) hK hM hS hb0 rfl (fun j hj => by rcases (show j = 0 ∨ j = 1 ∨ j = 2 ∨ j = 3 ∨ j = 4 ∨ j = 5 ∨ j = 6 ∨ j = 7 ∨ j = 8 ∨ j = 9 ∨ j = 10 ∨ j = 11 by omega) with rfl | rfl | rfl | rfl | rfl | rfl | rfl | rfl | rfl | rfl | rfl | rfl <;> rfl) e34 d_LR_load_76 (Nat.le_trans (Nat.le_of_ble_eq_true rfl) hRc) (Nat.le_trans (Nat.le_of_ble_eq_true rfl) hRs) (fun H hM hS => ?_)
              refine W.widen (k := 1) (n := 12) (by decide) (by decide) ?_
              refine lv_dup hx hb d_LR_load_79 (mx_cat _) ?_
              refine mx_aload hx hb d_LR_load_80 (lv_at hl 0 rfl) ?_
              refine lv_iload_n hx hb d_LR_load_82 rfl (lv_at hl 3 rfl) ?_
              refine lv_lload_n hx hb d_LR_load_83 rfl (lv_at hl 4 rfl) ?_
              refine lv_iload hx hb d_LR_load_84 (lv_at hl 5 rfl) ?_
              obtain ⟨q35, e36, h⟩ := mx_b h
              refine gq_go (va_runI (b := (q15.2).1) (As := [va_rf q1.1, .int v2, .long v3, .int v5]) (rest := [va_rf (some (q15.2).1)]) ⟨hx, hb, hml, hown, hts⟩ (c_Lo_init l G ((q15.2).1) q1.1 v2 v3 v5 _ _ e36) (cwI 4 hts (gq_gI wd_129) rfl rfl rfl (hts _ wd_66) (hts _ wd_130) (hts _ wd_131) rfl (by decide +kernel) ⟨Nat.le_trans (Nat.le_of_ble_eq_true rfl) hRf, Nat.le_trans (Nat.le_of_ble_eq_true rfl) hRl⟩) (gq_preS hK hN hM hS hb0) rfl rfl hl.1 rfl (lv_room (Nat.le_of_ble_eq_true rfl)) d_LR_load_86 ⟨Nat.le_trans (Nat.le_of_ble_eq_true rfl) hRc, Nat.le_trans (Nat.le_of_ble_eq_true rfl) hRs⟩) hS (fun H locs hM hS => ?_)
              refine W.widen (k := 2) (n := 16) (by decide) (by decide) ?_
              refine W.eq (g2 := F0 m 89 ls [va_rf (some (q15.2).1)]) rfl ?_
              refine mx_astore (lv' := [(7, va_rf (some (q15.2).1)), (6, va_rf q1.1), (0, va_rf (some a0)), (1, .int v1), (2, .int v2), (3, .long v3), (5, .int v5)]) hx hb d_LR_load_89 hl (by decide) (by simp [mx_cat, mx_cati, mx_catl, mx_catr]) (fun ls hl => ?_)
              refine mx_aload_n hx hb d_LR_load_91 rfl (lv_at hl 2 rfl) ?_
              obtain ⟨x38, e39, h⟩ := mx_b h
              refine mx_getr hx hb hts i_LR hown hK hM e39 (ci := 0) (C := R_LR) (T := T_LR) (N := 5) rfl 2 (by decide) (hts _ wd_6) d_LR_load_92 ?_
              refine mx_aload_n hx hb d_LR_load_95 rfl (lv_at hl 2 rfl) ?_
              obtain ⟨x40, e41, h⟩ := mx_b h
              refine mx_geti hx hb hts i_LR hown hK hM e41 (ci := 0) (C := R_LR) (T := T_LR) (N := 5) rfl 4 (by decide) (hts _ wd_9) d_LR_load_96 ?_
              refine mx_aload hx hb d_LR_load_99 (lv_at hl 0 rfl) ?_
              obtain ⟨_, e42, h⟩ := mx_b h
              obtain ⟨m44, e43, h⟩ := mx_b h
              refine mx_aast hx hb hK hM hS e42 e43 rfl rfl d_LR_load_101 (fun H locs hM hS => ?_)
              refine mx_aload_n hx hb d_LR_load_102 rfl (lv_at hl 2 rfl) ?_
              refine mx_aload hx hb d_LR_load_103 (lv_at hl 0 rfl) ?_
              obtain ⟨a48, e47, h⟩ := mx_b h
              obtain ⟨q45, e46, h⟩ := mx_b h
              have e49 := mx_c_eq e47
              refine W.eq (g2 := F0 m 105 ls [va_rf (some (q15.2).1), .ref a48]) (congrArg (fun z => F0 m 105 ls [va_rf (some (q15.2).1), va_rf z]) e49) ?_
              refine gq_go (va_runV (b := a48) (As := [va_rf (some (q15.2).1)]) (rest := []) ⟨hx, hb, hml, hown, hts⟩ (c_LR_fileByLeaving l G a48 (some (q15.2).1) _ _ e46) (cwV 1 hts (gq_gV wd_133 wd_134 wd_135 wd_38 wd_132) rfl rfl rfl (by decide +kernel) ⟨Nat.le_trans (Nat.le_of_ble_eq_true rfl) hRf, Nat.le_trans (Nat.le_of_ble_eq_true rfl) hRl⟩) (gq_preV hK hN hM hS hb0 e47 (C := R_LR) (T := T_LR) (N := 5) rfl) rfl rfl hl.1 rfl (lv_room (Nat.le_of_ble_eq_true rfl)) d_LR_load_105 ⟨Nat.le_trans (Nat.le_of_ble_eq_true rfl) hRc, Nat.le_trans (Nat.le_of_ble_eq_true rfl) hRs⟩) hS (fun H locs hM hS => ?_)
              refine W.eq (g2 := F0 m 108 ls []) rfl ?_
              refine mx_aload_n hx hb d_LR_load_108 rfl (lv_at hl 2 rfl) ?_
              refine lv_dup hx hb d_LR_load_109 (mx_cat _) ?_
              obtain ⟨x50, e51, h⟩ := mx_b h
              refine mx_geti hx hb hts i_LR hown hK hM e51 (ci := 0) (C := R_LR) (T := T_LR) (N := 5) rfl 4 (by decide) (hts _ wd_9) d_LR_load_110 ?_
              refine lv_iconst (v := 1) hx hb d_LR_load_113 (by decide) ?_
              refine lv_iadd hx hb d_LR_load_114 ?_
              obtain ⟨m52, e53, h⟩ := mx_b h
              refine mx_put hx hb hts i_LR t_LR t_LR_ok n_LR hown hK hM hS e53 (ci := 0) (C := R_LR) (T := T_LR) (N := 5) rfl 4 (by decide) (hts _ wd_9) rfl (ty := .int) (by decide +kernel) rfl rfl d_LR_load_115 (fun H locs hM hS => ?_)
              refine mx_aload_n hx hb d_LR_load_118 rfl (lv_at hl 2 rfl) ?_
              obtain ⟨a57, e56, h⟩ := mx_b h
              obtain ⟨q54, e55, h⟩ := mx_b h
              have e58 := mx_c_eq e56
              refine W.eq (g2 := F0 m 119 ls [.ref a57]) (congrArg (fun z => F0 m 119 ls [va_rf z]) e58) ?_
              refine gq_go (va_runV (b := a57) (As := []) (rest := []) ⟨hx, hb, hml, hown, hts⟩ (c_LR_settle l G a57  _ _ e55) (cwV 0 hts (gq_gV wd_106 wd_107 wd_108 wd_38 wd_105) rfl rfl rfl (by decide +kernel) ⟨Nat.le_trans (Nat.le_of_ble_eq_true rfl) hRf, Nat.le_trans (Nat.le_of_ble_eq_true rfl) hRl⟩) (gq_preV hK hN hM hS hb0 e56 (C := R_LR) (T := T_LR) (N := 5) rfl) rfl rfl hl.1 rfl (lv_room (Nat.le_of_ble_eq_true rfl)) d_LR_load_119 ⟨Nat.le_trans (Nat.le_of_ble_eq_true rfl) hRc, Nat.le_trans (Nat.le_of_ble_eq_true rfl) hRs⟩) hS (fun H locs hM hS => ?_)
              refine W.eq (g2 := F0 m 122 ls []) rfl ?_
              refine mx_aload_n hx hb d_LR_load_122 rfl (lv_at hl 2 rfl) ?_
              obtain ⟨x59, e60, h⟩ := mx_b h
              refine mx_geti hx hb hts i_LR hown hK hM e60 (ci := 0) (C := R_LR) (T := T_LR) (N := 5) rfl 4 (by decide) (hts _ wd_9) d_LR_load_123 ?_
              cases h
              exact W.iret hx hb hr (fun t ht hW => ⟨⟨rfl, by rw [ht]; exact hM⟩, hS.F ht⟩) hS.2.2 d_LR_load_126
            · rw [if_neg c32] at h
              refine lv_bipush (v := (-14)) hx hb d_LR_load_73 (by decide) ?_
              cases h
              refine W.widen (k := 2) (n := 16) (by decide) (by decide) ?_
              exact W.iret hx hb hr (fun t ht hW => ⟨⟨rfl, by rw [ht]; exact hM⟩, hS.F ht⟩) hS.2.2 d_LR_load_75
        · rw [if_pos c18] at h
          refine lv_bipush (v := (-12)) hx hb d_LR_load_46 (by decide) ?_
          cases h
          refine W.widen (k := 2) (n := 16) (by decide) (by decide) ?_
          exact W.iret hx hb hr (fun t ht hW => ⟨⟨rfl, by rw [ht]; exact hM⟩, hS.F ht⟩) hS.2.2 d_LR_load_48
  · rw [if_pos c6] at h
    refine lv_bipush (v := (-11)) hx hb d_LR_load_12 (by decide) ?_
    cases h
    refine W.widen (k := 2) (n := 16) (by decide) (by decide) ?_
    exact W.iret hx hb hr (fun t ht hW => ⟨⟨rfl, by rw [ht]; exact hM⟩, hS.F ht⟩) hS.2.2 d_LR_load_14
set_option maxHeartbeats 4000000 in
set_option maxRecDepth 100000 in
theorem c_Mo_isLine (l : Launch) (G : mx_G) (a0 : Nat) (v1 : Int32) (mem : mx_Mem) (q : Int32 × mx_Mem) (h : f_Mo_isLine a0 v1 mem = some q) : Met l y_Mo_isLine (gq_w y_Mo_isLine b_Mo_isLine 2 (some .boolean)) { frames := 0, cells := 0, slots := 0, locals := 0 } (gq_P G [.ref a0, .int v1] mem) (gq_Q G (some (.int q.1)) q.2) 0 0 (mx_A G) := by
  refine Met.ofW (cc := b_Mo_isLine) (maxL := 2) (ret := (some .boolean)) (by decide) rfl ?_
  intro p e s m args below meth c s₁ B hml hv
  obtain ⟨rfl, hb0, hM, hK, hN⟩ := hv
  have CX : gq_C p (headSpec (gq_w y_Mo_isLine b_Mo_isLine 2 (some .boolean)) { frames := 0, cells := 0, slots := 0, locals := 0 }).room s m _ meth c G b_Mo_isLine 2 (some .boolean) R_Mo 0 0 0 0 := ⟨B.exec, B.bytes, hml, B.returns, findClass_of_methodNamed B.named, fun w hw => atoms_spec (ws := gq_w y_Mo_isLine b_Mo_isLine 2 (some .boolean)) B.pre w (List.mem_cons_of_mem _ hw), B.notSynchronized, hK, hN, hb0, Nat.le_refl _, Nat.le_refl _, Nat.le_refl _, Nat.le_refl _⟩
  obtain ⟨hx, hb, hml, hr, hown, hts, hlocks, hK, hN, hb0, hRf, hRc, hRs, hRl⟩ := id CX
  have hS : va_S (mx_A G) s.heap s.heap [] := va_S.rf
  have hl := lv_entry [.ref a0, .int v1] (n := 2) (Nat.le_of_ble_eq_true rfl)
  rw [lg_entry_eq]
  generalize (lg_sl [.ref a0, .int v1] ++ List.replicate (2 - (lg_sl [.ref a0, .int v1]).length) Slot.unset).toArray = ls at hl ⊢
  have hl : lv_has ls 2 [(0, va_rf (some a0)), (1, .int v1)] := hl
  unfold f_Mo_isLine at h
  refine lv_iload_n hx hb d_Mo_isLine_0 rfl (lv_at hl 1 rfl) ?_
  refine lv_iconst (v := 1) hx hb d_Mo_isLine_1 (by decide) ?_
  refine lv_icmp_lt (tgt := 17) hx hb d_Mo_isLine_2 (by decide) (fun c1 => ?_) (fun c1 => ?_)
  · rw [if_pos c1] at h
    refine lv_iconst (v := 0) hx hb d_Mo_isLine_17 (by decide) ?_
    cases h
    exact W.zret hx hb hr rfl (fun t ht hW => ⟨⟨rfl, by rw [ht]; exact hM⟩, hS.F ht⟩) hS.2.2 d_Mo_isLine_18
  · rw [if_neg c1] at h
    refine lv_iload_n hx hb d_Mo_isLine_5 rfl (lv_at hl 1 rfl) ?_
    refine mx_aload_n hx hb d_Mo_isLine_6 rfl (lv_at hl 0 rfl) ?_
    obtain ⟨x2, e3, h⟩ := mx_b h
    refine mx_geti hx hb hts i_Mo hown hK hM e3 (ci := 4) (C := R_Mo) (T := T_Mo) (N := 23) rfl 1 (by decide) (hts _ wd_116) d_Mo_isLine_7 ?_
    refine lv_icmp_gt (tgt := 17) hx hb d_Mo_isLine_10 (by decide) (fun c4 => ?_) (fun c4 => ?_)
    · rw [if_pos c4] at h
      refine lv_iconst (v := 0) hx hb d_Mo_isLine_17 (by decide) ?_
      cases h
      exact W.zret hx hb hr rfl (fun t ht hW => ⟨⟨rfl, by rw [ht]; exact hM⟩, hS.F ht⟩) hS.2.2 d_Mo_isLine_18
    · rw [if_neg c4] at h
      refine lv_iconst (v := 1) hx hb d_Mo_isLine_13 (by decide) ?_
      refine lv_goto (tgt := 18) hx hb d_Mo_isLine_14 (by decide) ?_
      cases h
      exact W.zret hx hb hr rfl (fun t ht hW => ⟨⟨rfl, by rw [ht]; exact hM⟩, hS.F ht⟩) hS.2.2 d_Mo_isLine_18
set_option maxHeartbeats 4000000 in
set_option maxRecDepth 100000 in
theorem c_Mo_load (l : Launch) (G : mx_G) (a0 : Nat) (v1 : Int32) (v2 : Int32) (v3 : Int64) (v5 : Int32) (mem : mx_Mem) (q : Int32 × mx_Mem) (h : f_Mo_load a0 v1 v2 v3 v5 mem = some q) : Met l y_Mo_load (gq_w y_Mo_load b_Mo_load 6 (some .int)) { frames := 1, cells := 0, slots := 0, locals := 25 } (gq_P G [.ref a0, .int v1, .int v2, .long v3, .int v5] mem) (gq_Q G (some (.int q.1)) q.2) 0 0 (mx_A G) := by
  refine Met.ofW (cc := b_Mo_load) (maxL := 6) (ret := (some .int)) (by decide) rfl ?_
  intro p e s m args below meth c s₁ B hml hv
  obtain ⟨rfl, hb0, hM, hK, hN⟩ := hv
  have CX : gq_C p (headSpec (gq_w y_Mo_load b_Mo_load 6 (some .int)) { frames := 1, cells := 0, slots := 0, locals := 25 }).room s m _ meth c G b_Mo_load 6 (some .int) R_Mo 1 0 0 25 := ⟨B.exec, B.bytes, hml, B.returns, findClass_of_methodNamed B.named, fun w hw => atoms_spec (ws := gq_w y_Mo_load b_Mo_load 6 (some .int)) B.pre w (List.mem_cons_of_mem _ hw), B.notSynchronized, hK, hN, hb0, Nat.le_refl _, Nat.le_refl _, Nat.le_refl _, Nat.le_refl _⟩
  obtain ⟨hx, hb, hml, hr, hown, hts, hlocks, hK, hN, hb0, hRf, hRc, hRs, hRl⟩ := id CX
  have hS : va_S (mx_A G) s.heap s.heap [] := va_S.rf
  have hl := lv_entry [.ref a0, .int v1, .int v2, .long v3, .int v5] (n := 6) (Nat.le_of_ble_eq_true rfl)
  rw [lg_entry_eq]
  generalize (lg_sl [.ref a0, .int v1, .int v2, .long v3, .int v5] ++ List.replicate (6 - (lg_sl [.ref a0, .int v1, .int v2, .long v3, .int v5]).length) Slot.unset).toArray = ls at hl ⊢
  have hl : lv_has ls 6 [(0, va_rf (some a0)), (1, .int v1), (2, .int v2), (3, .long v3), (5, .int v5)] := hl
  unfold f_Mo_load at h
  refine mx_aload_n hx hb d_Mo_load_0 rfl (lv_at hl 0 rfl) ?_
  refine lv_iconst (v := 0) hx hb d_Mo_load_1 (by decide) ?_
  obtain ⟨m1, e2, h⟩ := mx_b h
  refine mx_put hx hb hts i_Mo t_Mo t_Mo_ok n_Mo hown hK hM hS e2 (ci := 4) (C := R_Mo) (T := T_Mo) (N := 23) rfl 0 (by decide) (hts _ wd_109) rfl (ty := .int) (by decide +kernel) rfl rfl d_Mo_load_2 (fun H locs hM hS => ?_)
  refine mx_aload_n hx hb d_Mo_load_5 rfl (lv_at hl 0 rfl) ?_
  refine lv_iload_n hx hb d_Mo_load_6 rfl (lv_at hl 1 rfl) ?_
  obtain ⟨a6, e5, h⟩ := mx_b h
  obtain ⟨q3, e4, h⟩ := mx_b h
  have e7 := mx_c_eq e5
  refine W.eq (g2 := F0 m 7 ls [.int v1, .ref a6]) (congrArg (fun z => F0 m 7 ls [.int v1, va_rf z]) e7) ?_
  refine gq_go (va_runV (b := a6) (As := [.int v1]) (rest := []) ⟨hx, hb, hml, hown, hts⟩ (c_Mo_isLine l G a6 v1 _ _ e4) (cwV 1 hts (gq_gV wd_137 wd_138 wd_139 wd_114 wd_136) rfl rfl rfl (by decide +kernel) ⟨Nat.le_trans (Nat.le_of_ble_eq_true rfl) hRf, Nat.le_trans (Nat.le_of_ble_eq_true rfl) hRl⟩) (gq_preV hK hN hM hS hb0 e5 (C := R_Mo) (T := T_Mo) (N := 23) rfl) rfl rfl hl.1 rfl (lv_room (Nat.le_of_ble_eq_true rfl)) d_Mo_load_7 ⟨Nat.le_trans (Nat.le_of_ble_eq_true rfl) hRc, Nat.le_trans (Nat.le_of_ble_eq_true rfl) hRs⟩) hS (fun H locs hM hS => ?_)
  refine W.eq (g2 := F0 m 10 ls [.int q3.1]) rfl ?_
  refine lv_if_ne (tgt := 16) hx hb d_Mo_load_10 (by decide) (fun c8 => ?_) (fun c8 => ?_)
  · rw [if_neg c8] at h
    refine lv_iload_n hx hb d_Mo_load_16 rfl (lv_at hl 2 rfl) ?_
    refine lv_i2l hx hb d_Mo_load_17 rfl ?_
    refine lv_lconst (v := 0) hx hb d_Mo_load_18 (by decide) ?_
    refine lv_ldc2 (v := 9) hx hb hown (hts _ wd_110) d_Mo_load_19 ?_
    obtain ⟨q9, e10, h⟩ := mx_b h
    refine gq_go (va_runS (As := [.long v2.toInt64, .long 0, .long 9]) (rest := []) ⟨hx, hb, hml, hown, hts⟩ (c_Mo_in l G v2.toInt64 0 9 _ _ e10) (cwS 3 hts (gq_gS wd_112 wd_113 wd_114 wd_111) rfl rfl rfl (by decide +kernel) ⟨Nat.le_trans (Nat.le_of_ble_eq_true rfl) hRf, Nat.le_trans (Nat.le_of_ble_eq_true rfl) hRl⟩) (gq_preS hK hN hM hS hb0) rfl rfl hl.1 rfl (lv_room (Nat.le_of_ble_eq_true rfl)) d_Mo_load_22 ⟨Nat.le_trans (Nat.le_of_ble_eq_true rfl) hRc, Nat.le_trans (Nat.le_of_ble_eq_true rfl) hRs⟩) hS (fun H locs hM hS => ?_)
    refine W.eq (g2 := F0 m 25 ls [.int q9.1]) rfl ?_
    refine lv_if_eq (tgt := 52) hx hb d_Mo_load_25 (by decide) (fun c12 => ?_) (fun c12 => ?_)
    · rw [if_pos c12] at h
      refine lv_bipush (v := (-12)) hx hb d_Mo_load_52 (by decide) ?_
      cases h
      exact W.iret hx hb hr (fun t ht hW => ⟨⟨rfl, by rw [ht]; exact hM⟩, hS.F ht⟩) hS.2.2 d_Mo_load_54
    · rw [if_neg c12] at h
      refine lv_lload_n hx hb d_Mo_load_28 rfl (lv_at hl 3 rfl) ?_
      refine lv_lconst (v := 0) hx hb d_Mo_load_29 (by decide) ?_
      refine lv_ldc2 (v := 20000) hx hb hown (hts _ wd_140) d_Mo_load_30 ?_
      obtain ⟨q13, e14, h⟩ := mx_b h
      refine gq_go (va_runS (As := [.long v3, .long 0, .long 20000]) (rest := []) ⟨hx, hb, hml, hown, hts⟩ (c_Mo_in l G v3 0 20000 _ _ e14) (cwS 3 hts (gq_gS wd_112 wd_113 wd_114 wd_111) rfl rfl rfl (by decide +kernel) ⟨Nat.le_trans (Nat.le_of_ble_eq_true rfl) hRf, Nat.le_trans (Nat.le_of_ble_eq_true rfl) hRl⟩) (gq_preS hK hN hM hS hb0) rfl rfl hl.1 rfl (lv_room (Nat.le_of_ble_eq_true rfl)) d_Mo_load_33 ⟨Nat.le_trans (Nat.le_of_ble_eq_true rfl) hRc, Nat.le_trans (Nat.le_of_ble_eq_true rfl) hRs⟩) hS (fun H locs hM hS => ?_)
      refine W.eq (g2 := F0 m 36 ls [.int q13.1]) rfl ?_
      refine lv_if_eq (tgt := 52) hx hb d_Mo_load_36 (by decide) (fun c16 => ?_) (fun c16 => ?_)
      · rw [if_pos c16] at h
        refine lv_bipush (v := (-12)) hx hb d_Mo_load_52 (by decide) ?_
        cases h
        exact W.iret hx hb hr (fun t ht hW => ⟨⟨rfl, by rw [ht]; exact hM⟩, hS.F ht⟩) hS.2.2 d_Mo_load_54
      · rw [if_neg c16] at h
        refine lv_iload hx hb d_Mo_load_39 (lv_at hl 4 rfl) ?_
        refine lv_i2l hx hb d_Mo_load_41 rfl ?_
        refine lv_lconst (v := 1) hx hb d_Mo_load_42 (by decide) ?_
        refine lv_ldc2 (v := 100) hx hb hown (hts _ wd_141) d_Mo_load_43 ?_
        obtain ⟨q17, e18, h⟩ := mx_b h
        refine gq_go (va_runS (As := [.long v5.toInt64, .long 1, .long 100]) (rest := []) ⟨hx, hb, hml, hown, hts⟩ (c_Mo_in l G v5.toInt64 1 100 _ _ e18) (cwS 3 hts (gq_gS wd_112 wd_113 wd_114 wd_111) rfl rfl rfl (by decide +kernel) ⟨Nat.le_trans (Nat.le_of_ble_eq_true rfl) hRf, Nat.le_trans (Nat.le_of_ble_eq_true rfl) hRl⟩) (gq_preS hK hN hM hS hb0) rfl rfl hl.1 rfl (lv_room (Nat.le_of_ble_eq_true rfl)) d_Mo_load_46 ⟨Nat.le_trans (Nat.le_of_ble_eq_true rfl) hRc, Nat.le_trans (Nat.le_of_ble_eq_true rfl) hRs⟩) hS (fun H locs hM hS => ?_)
        refine W.eq (g2 := F0 m 49 ls [.int q17.1]) rfl ?_
        refine lv_if_ne (tgt := 55) hx hb d_Mo_load_49 (by decide) (fun c20 => ?_) (fun c20 => ?_)
        · rw [if_neg c20] at h
          refine mx_aload_n hx hb d_Mo_load_55 rfl (lv_at hl 0 rfl) ?_
          obtain ⟨x21, e22, h⟩ := mx_b h
          refine mx_geti hx hb hts i_Mo hown hK hM e22 (ci := 4) (C := R_Mo) (T := T_Mo) (N := 23) rfl 9 (by decide) (hts _ wd_142) d_Mo_load_56 ?_
          refine lv_bipush (v := 6) hx hb d_Mo_load_59 (by decide) ?_
          refine lv_icmp_ne (tgt := 67) hx hb d_Mo_load_61 (by decide) (fun c23 => ?_) (fun c23 => ?_)
          · rw [if_neg c23] at h
            refine mx_aload_n hx hb d_Mo_load_67 rfl (lv_at hl 0 rfl) ?_
            refine lv_dup hx hb d_Mo_load_68 (mx_cat _) ?_
            obtain ⟨x24, e25, h⟩ := mx_b h
            refine mx_geti hx hb hts i_Mo hown hK hM e25 (ci := 4) (C := R_Mo) (T := T_Mo) (N := 23) rfl 9 (by decide) (hts _ wd_142) d_Mo_load_69 ?_
            refine lv_iconst (v := 1) hx hb d_Mo_load_72 (by decide) ?_
            refine lv_iadd hx hb d_Mo_load_73 ?_
            obtain ⟨m26, e27, h⟩ := mx_b h
            refine mx_put hx hb hts i_Mo t_Mo t_Mo_ok n_Mo hown hK hM hS e27 (ci := 4) (C := R_Mo) (T := T_Mo) (N := 23) rfl 9 (by decide) (hts _ wd_142) rfl (ty := .int) (by decide +kernel) rfl rfl d_Mo_load_74 (fun H locs hM hS => ?_)
            refine mx_aload_n hx hb d_Mo_load_77 rfl (lv_at hl 0 rfl) ?_
            obtain ⟨x28, e29, h⟩ := mx_b h
            refine mx_getr hx hb hts i_Mo hown hK hM e29 (ci := 4) (C := R_Mo) (T := T_Mo) (N := 23) rfl 10 (by decide) (hts _ wd_20) d_Mo_load_78 ?_
            refine mx_aload_n hx hb d_Mo_load_81 rfl (lv_at hl 0 rfl) ?_
            obtain ⟨x30, e31, h⟩ := mx_b h
            refine mx_geti hx hb hts i_Mo hown hK hM e31 (ci := 4) (C := R_Mo) (T := T_Mo) (N := 23) rfl 9 (by decide) (hts _ wd_142) d_Mo_load_82 ?_
            refine lv_iload_n hx hb d_Mo_load_85 rfl (lv_at hl 1 rfl) ?_
            obtain ⟨m33, e32, h⟩ := mx_b h
            refine mx_iast hx hb hK hM hS e32 rfl d_Mo_load_86 (fun H locs hM hS => ?_)
            refine mx_aload_n hx hb d_Mo_load_87 rfl (lv_at hl 0 rfl) ?_
            obtain ⟨x34, e35, h⟩ := mx_b h
            refine mx_getr hx hb hts i_Mo hown hK hM e35 (ci := 4) (C := R_Mo) (T := T_Mo) (N := 23) rfl 11 (by decide) (hts _ wd_21) d_Mo_load_88 ?_
            refine mx_aload_n hx hb d_Mo_load_91 rfl (lv_at hl 0 rfl) ?_
            obtain ⟨x36, e37, h⟩ := mx_b h
            refine mx_geti hx hb hts i_Mo hown hK hM e37 (ci := 4) (C := R_Mo) (T := T_Mo) (N := 23) rfl 9 (by decide) (hts _ wd_142) d_Mo_load_92 ?_
            refine lv_iload_n hx hb d_Mo_load_95 rfl (lv_at hl 2 rfl) ?_
            obtain ⟨m39, e38, h⟩ := mx_b h
            refine mx_iast hx hb hK hM hS e38 rfl d_Mo_load_96 (fun H locs hM hS => ?_)
            refine mx_aload_n hx hb d_Mo_load_97 rfl (lv_at hl 0 rfl) ?_
            obtain ⟨x40, e41, h⟩ := mx_b h
            refine mx_getr hx hb hts i_Mo hown hK hM e41 (ci := 4) (C := R_Mo) (T := T_Mo) (N := 23) rfl 12 (by decide) (hts _ wd_22) d_Mo_load_98 ?_
            refine mx_aload_n hx hb d_Mo_load_101 rfl (lv_at hl 0 rfl) ?_
            obtain ⟨x42, e43, h⟩ := mx_b h
            refine mx_geti hx hb hts i_Mo hown hK hM e43 (ci := 4) (C := R_Mo) (T := T_Mo) (N := 23) rfl 9 (by decide) (hts _ wd_142) d_Mo_load_102 ?_
            refine lv_lload_n hx hb d_Mo_load_105 rfl (lv_at hl 3 rfl) ?_
            obtain ⟨m45, e44, h⟩ := mx_b h
            refine mx_last hx hb hK hM hS e44 rfl d_Mo_load_106 (fun H locs hM hS => ?_)
            refine mx_aload_n hx hb d_Mo_load_107 rfl (lv_at hl 0 rfl) ?_
            obtain ⟨x46, e47, h⟩ := mx_b h
            refine mx_getr hx hb hts i_Mo hown hK hM e47 (ci := 4) (C := R_Mo) (T := T_Mo) (N := 23) rfl 13 (by decide) (hts _ wd_23) d_Mo_load_108 ?_
            refine mx_aload_n hx hb d_Mo_load_111 rfl (lv_at hl 0 rfl) ?_
            obtain ⟨x48, e49, h⟩ := mx_b h
            refine mx_geti hx hb hts i_Mo hown hK hM e49 (ci := 4) (C := R_Mo) (T := T_Mo) (N := 23) rfl 9 (by decide) (hts _ wd_142) d_Mo_load_112 ?_
            refine lv_iload hx hb d_Mo_load_115 (lv_at hl 4 rfl) ?_
            obtain ⟨m51, e50, h⟩ := mx_b h
            refine mx_iast hx hb hK hM hS e50 rfl d_Mo_load_117 (fun H locs hM hS => ?_)
            refine mx_aload_n hx hb d_Mo_load_118 rfl (lv_at hl 0 rfl) ?_
            obtain ⟨x52, e53, h⟩ := mx_b h
            refine mx_geti hx hb hts i_Mo hown hK hM e53 (ci := 4) (C := R_Mo) (T := T_Mo) (N := 23) rfl 9 (by decide) (hts _ wd_142) d_Mo_load_119 ?_
            cases h
            exact W.iret hx hb hr (fun t ht hW => ⟨⟨rfl, by rw [ht]; exact hM⟩, hS.F ht⟩) hS.2.2 d_Mo_load_122
          · rw [if_pos c23] at h
            refine lv_bipush (v := (-14)) hx hb d_Mo_load_64 (by decide) ?_
            cases h
            exact W.iret hx hb hr (fun t ht hW => ⟨⟨rfl, by rw [ht]; exact hM⟩, hS.F ht⟩) hS.2.2 d_Mo_load_66
        · rw [if_pos c20] at h
          refine lv_bipush (v := (-12)) hx hb d_Mo_load_52 (by decide) ?_
          cases h
          exact W.iret hx hb hr (fun t ht hW => ⟨⟨rfl, by rw [ht]; exact hM⟩, hS.F ht⟩) hS.2.2 d_Mo_load_54
  · rw [if_pos c8] at h
    refine lv_bipush (v := (-11)) hx hb d_Mo_load_13 (by decide) ?_
    cases h
    exact W.iret hx hb hr (fun t ht hW => ⟨⟨rfl, by rw [ht]; exact hM⟩, hS.F ht⟩) hS.2.2 d_Mo_load_15
set_option maxHeartbeats 4000000 in
set_option maxRecDepth 100000 in
theorem c_LR_findLoad (l : Launch) (G : mx_G) (a0 : Nat) (v1 : Int32) (mem : mx_Mem) (q : Option Nat × mx_Mem) (h : f_LR_findLoad a0 v1 mem = some q) : Met l y_LR_findLoad (gq_w y_LR_findLoad b_LR_findLoad 2 (some (.object "LateRoutes$Load"))) { frames := 0, cells := 0, slots := 0, locals := 0 } (gq_P G [.ref a0, .int v1] mem) (gq_Q G (some (va_rf q.1)) q.2) 0 0 (mx_A G) := by
  refine Met.ofW (cc := b_LR_findLoad) (maxL := 2) (ret := (some (.object "LateRoutes$Load"))) (by decide) rfl ?_
  intro p e s m args below meth c s₁ B hml hv
  obtain ⟨rfl, hb0, hM, hK, hN⟩ := hv
  have CX : gq_C p (headSpec (gq_w y_LR_findLoad b_LR_findLoad 2 (some (.object "LateRoutes$Load"))) { frames := 0, cells := 0, slots := 0, locals := 0 }).room s m _ meth c G b_LR_findLoad 2 (some (.object "LateRoutes$Load")) R_LR 0 0 0 0 := ⟨B.exec, B.bytes, hml, B.returns, findClass_of_methodNamed B.named, fun w hw => atoms_spec (ws := gq_w y_LR_findLoad b_LR_findLoad 2 (some (.object "LateRoutes$Load"))) B.pre w (List.mem_cons_of_mem _ hw), B.notSynchronized, hK, hN, hb0, Nat.le_refl _, Nat.le_refl _, Nat.le_refl _, Nat.le_refl _⟩
  obtain ⟨hx, hb, hml, hr, hown, hts, hlocks, hK, hN, hb0, hRf, hRc, hRs, hRl⟩ := id CX
  have hS : va_S (mx_A G) s.heap s.heap [] := va_S.rf
  have hl := lv_entry [.ref a0, .int v1] (n := 2) (Nat.le_of_ble_eq_true rfl)
  rw [lg_entry_eq]
  generalize (lg_sl [.ref a0, .int v1] ++ List.replicate (2 - (lg_sl [.ref a0, .int v1]).length) Slot.unset).toArray = ls at hl ⊢
  have hl : lv_has ls 2 [(0, va_rf (some a0)), (1, .int v1)] := hl
  unfold f_LR_findLoad at h
  refine lv_iload_n hx hb d_LR_findLoad_0 rfl (lv_at hl 1 rfl) ?_
  refine lv_iconst (v := 1) hx hb d_LR_findLoad_1 (by decide) ?_
  refine lv_icmp_lt (tgt := 24) hx hb d_LR_findLoad_2 (by decide) (fun c1 => ?_) (fun c1 => ?_)
  · rw [if_pos c1] at h
    refine mx_null hx hb d_LR_findLoad_24 ?_
    cases h
    exact W.aret hx hb hr (Or.inl ⟨_, rfl⟩) (va_rf_or _) (fun t ht hW => ⟨⟨rfl, by rw [ht]; exact hM⟩, hS.F ht⟩) hS.2.2 d_LR_findLoad_25
  · rw [if_neg c1] at h
    refine lv_iload_n hx hb d_LR_findLoad_5 rfl (lv_at hl 1 rfl) ?_
    refine mx_aload_n hx hb d_LR_findLoad_6 rfl (lv_at hl 0 rfl) ?_
    obtain ⟨x2, e3, h⟩ := mx_b h
    refine mx_geti hx hb hts i_LR hown hK hM e3 (ci := 0) (C := R_LR) (T := T_LR) (N := 5) rfl 4 (by decide) (hts _ wd_9) d_LR_findLoad_7 ?_
    refine lv_icmp_gt (tgt := 24) hx hb d_LR_findLoad_10 (by decide) (fun c4 => ?_) (fun c4 => ?_)
    · rw [if_pos c4] at h
      refine mx_null hx hb d_LR_findLoad_24 ?_
      cases h
      exact W.aret hx hb hr (Or.inl ⟨_, rfl⟩) (va_rf_or _) (fun t ht hW => ⟨⟨rfl, by rw [ht]; exact hM⟩, hS.F ht⟩) hS.2.2 d_LR_findLoad_25
    · rw [if_neg c4] at h
      refine mx_aload_n hx hb d_LR_findLoad_13 rfl (lv_at hl 0 rfl) ?_
      obtain ⟨x5, e6, h⟩ := mx_b h
      refine mx_getr hx hb hts i_LR hown hK hM e6 (ci := 0) (C := R_LR) (T := T_LR) (N := 5) rfl 2 (by decide) (hts _ wd_6) d_LR_findLoad_14 ?_
      refine lv_iload_n hx hb d_LR_findLoad_17 rfl (lv_at hl 1 rfl) ?_
      refine lv_iconst (v := 1) hx hb d_LR_findLoad_18 (by decide) ?_
      refine lv_isub hx hb d_LR_findLoad_19 ?_
      obtain ⟨x7, e8, h⟩ := mx_b h
      refine mx_aald hx hb hK hM e8 rfl d_LR_findLoad_20 ?_
      refine lv_goto (tgt := 25) hx hb d_LR_findLoad_21 (by decide) ?_
      cases h
      exact W.aret hx hb hr (Or.inl ⟨_, rfl⟩) (va_rf_or _) (fun t ht hW => ⟨⟨rfl, by rw [ht]; exact hM⟩, hS.F ht⟩) hS.2.2 d_LR_findLoad_25
set_option maxHeartbeats 4000000 in
set_option maxRecDepth 100000 in
theorem c_Lo_canGoOnBy (l : Launch) (G : mx_G) (a0 : Nat) (v1 : Option Nat) (mem : mx_Mem) (q : Int32 × mx_Mem) (h : f_Lo_canGoOnBy a0 v1 mem = some q) : Met l y_Lo_canGoOnBy (gq_w y_Lo_canGoOnBy b_Lo_canGoOnBy 2 (some .boolean)) { frames := 0, cells := 0, slots := 0, locals := 0 } (gq_P G [.ref a0, va_rf v1] mem) (gq_Q G (some (.int q.1)) q.2) 0 0 (mx_A G) := by
  refine Met.ofW (cc := b_Lo_canGoOnBy) (maxL := 2) (ret := (some .boolean)) (by decide) rfl ?_
  intro p e s m args below meth c s₁ B hml hv
  obtain ⟨rfl, hb0, hM, hK, hN⟩ := hv
  have CX : gq_C p (headSpec (gq_w y_Lo_canGoOnBy b_Lo_canGoOnBy 2 (some .boolean)) { frames := 0, cells := 0, slots := 0, locals := 0 }).room s m _ meth c G b_Lo_canGoOnBy 2 (some .boolean) R_Lo 0 0 0 0 := ⟨B.exec, B.bytes, hml, B.returns, findClass_of_methodNamed B.named, fun w hw => atoms_spec (ws := gq_w y_Lo_canGoOnBy b_Lo_canGoOnBy 2 (some .boolean)) B.pre w (List.mem_cons_of_mem _ hw), B.notSynchronized, hK, hN, hb0, Nat.le_refl _, Nat.le_refl _, Nat.le_refl _, Nat.le_refl _⟩
  obtain ⟨hx, hb, hml, hr, hown, hts, hlocks, hK, hN, hb0, hRf, hRc, hRs, hRl⟩ := id CX
  have hS : va_S (mx_A G) s.heap s.heap [] := va_S.rf
  have hl := lv_entry [.ref a0, va_rf v1] (n := 2) (by simp [lg_sl, mx_cat, mx_cati, mx_catl, mx_catr])
  rw [lg_entry_eq]
  generalize (lg_sl [.ref a0, va_rf v1] ++ List.replicate (2 - (lg_sl [.ref a0, va_rf v1]).length) Slot.unset).toArray = ls at hl ⊢
  have hl : lv_has ls 2 [(0, va_rf (some a0)), (1, va_rf v1)] := by have h9 := hl; simp [lv_args, mx_cat, mx_cati, mx_catl, mx_catr] at h9; exact h9
  unfold f_Lo_canGoOnBy at h
  refine mx_aload_n hx hb d_Lo_canGoOnBy_0 rfl (lv_at hl 1 rfl) ?_
  obtain ⟨x1, e2, h⟩ := mx_b h
  refine mx_getiN hx hb hts i_Li hown hK hM e2 (ci := 1) (C := R_Li) (T := T_Li) (N := 8) rfl 1 (by decide) (va_Nw.use rfl (hN _ nw_9)) d_Lo_canGoOnBy_1 ?_
  refine mx_aload_n hx hb d_Lo_canGoOnBy_4 rfl (lv_at hl 0 rfl) ?_
  obtain ⟨x3, e4, h⟩ := mx_b h
  refine mx_getr hx hb hts i_Lo hown hK hM e4 (ci := 3) (C := R_Lo) (T := T_Lo) (N := 12) rfl 0 (by decide) (hts _ wd_55) d_Lo_canGoOnBy_5 ?_
  obtain ⟨x5, e6, h⟩ := mx_b h
  refine mx_getiN hx hb hts i_Li hown hK hM e6 (ci := 1) (C := R_Li) (T := T_Li) (N := 8) rfl 2 (by decide) (va_Nw.use rfl (hN _ nw_4)) d_Lo_canGoOnBy_8 ?_
  refine lv_icmp_ne (tgt := 44) hx hb d_Lo_canGoOnBy_11 (by decide) (fun c7 => ?_) (fun c7 => ?_)
  · rw [if_neg c7] at h
    refine lv_iconst (v := 0) hx hb d_Lo_canGoOnBy_44 (by decide) ?_
    cases h
    exact W.zret hx hb hr rfl (fun t ht hW => ⟨⟨rfl, by rw [ht]; exact hM⟩, hS.F ht⟩) hS.2.2 d_Lo_canGoOnBy_45
  · rw [if_pos c7] at h
    refine mx_aload_n hx hb d_Lo_canGoOnBy_14 rfl (lv_at hl 1 rfl) ?_
    obtain ⟨x8, e9, h⟩ := mx_b h
    refine mx_getiN hx hb hts i_Li hown hK hM e9 (ci := 1) (C := R_Li) (T := T_Li) (N := 8) rfl 2 (by decide) (va_Nw.use rfl (hN _ nw_4)) d_Lo_canGoOnBy_15 ?_
    refine mx_aload_n hx hb d_Lo_canGoOnBy_18 rfl (lv_at hl 0 rfl) ?_
    obtain ⟨x10, e11, h⟩ := mx_b h
    refine mx_geti hx hb hts i_Lo hown hK hM e11 (ci := 3) (C := R_Lo) (T := T_Lo) (N := 12) rfl 1 (by decide) (hts _ wd_72) d_Lo_canGoOnBy_19 ?_
    refine lv_icmp_ne (tgt := 44) hx hb d_Lo_canGoOnBy_22 (by decide) (fun c12 => ?_) (fun c12 => ?_)
    · rw [if_neg c12] at h
      refine lv_iconst (v := 0) hx hb d_Lo_canGoOnBy_44 (by decide) ?_
      cases h
      exact W.zret hx hb hr rfl (fun t ht hW => ⟨⟨rfl, by rw [ht]; exact hM⟩, hS.F ht⟩) hS.2.2 d_Lo_canGoOnBy_45
    · rw [if_pos c12] at h
      refine mx_aload_n hx hb d_Lo_canGoOnBy_25 rfl (lv_at hl 1 rfl) ?_
      obtain ⟨x13, e14, h⟩ := mx_b h
      refine mx_getlN hx hb hts i_Li hown hK hM e14 (ci := 1) (C := R_Li) (T := T_Li) (N := 8) rfl 3 (by decide) (va_Nw.use rfl (hN _ nw_10)) d_Lo_canGoOnBy_26 ?_
      refine mx_aload_n hx hb d_Lo_canGoOnBy_29 rfl (lv_at hl 0 rfl) ?_
      obtain ⟨x15, e16, h⟩ := mx_b h
      refine mx_getr hx hb hts i_Lo hown hK hM e16 (ci := 3) (C := R_Lo) (T := T_Lo) (N := 12) rfl 0 (by decide) (hts _ wd_55) d_Lo_canGoOnBy_30 ?_
      obtain ⟨x17, e18, h⟩ := mx_b h
      refine mx_getlN hx hb hts i_Li hown hK hM e18 (ci := 1) (C := R_Li) (T := T_Li) (N := 8) rfl 3 (by decide) (va_Nw.use rfl (hN _ nw_10)) d_Lo_canGoOnBy_33 ?_
      refine mx_lcmp_le (tgt := 44) hx hb d_Lo_canGoOnBy_36 d_Lo_canGoOnBy_37 (by decide) (fun c19 => ?_) (fun c19 => ?_)
      · rw [if_pos c19] at h
        refine lv_iconst (v := 0) hx hb d_Lo_canGoOnBy_44 (by decide) ?_
        cases h
        exact W.zret hx hb hr rfl (fun t ht hW => ⟨⟨rfl, by rw [ht]; exact hM⟩, hS.F ht⟩) hS.2.2 d_Lo_canGoOnBy_45
      · rw [if_neg c19] at h
        refine lv_iconst (v := 1) hx hb d_Lo_canGoOnBy_40 (by decide) ?_
        refine lv_goto (tgt := 45) hx hb d_Lo_canGoOnBy_41 (by decide) ?_
        cases h
        exact W.zret hx hb hr rfl (fun t ht hW => ⟨⟨rfl, by rw [ht]; exact hM⟩, hS.F ht⟩) hS.2.2 d_Lo_canGoOnBy_45
set_option maxHeartbeats 4000000 in
set_option maxRecDepth 100000 in
theorem c_Lo_hasRoom (l : Launch) (G : mx_G) (a0 : Nat) (mem : mx_Mem) (q : Int32 × mx_Mem) (h : f_Lo_hasRoom a0 mem = some q) : Met l y_Lo_hasRoom (gq_w y_Lo_hasRoom b_Lo_hasRoom 1 (some .boolean)) { frames := 0, cells := 0, slots := 0, locals := 0 } (gq_P G [.ref a0] mem) (gq_Q G (some (.int q.1)) q.2) 0 0 (mx_A G) := by
  refine Met.ofW (cc := b_Lo_hasRoom) (maxL := 1) (ret := (some .boolean)) (by decide) rfl ?_
  intro p e s m args below meth c s₁ B hml hv
  obtain ⟨rfl, hb0, hM, hK, hN⟩ := hv
  have CX : gq_C p (headSpec (gq_w y_Lo_hasRoom b_Lo_hasRoom 1 (some .boolean)) { frames := 0, cells := 0, slots := 0, locals := 0 }).room s m _ meth c G b_Lo_hasRoom 1 (some .boolean) R_Lo 0 0 0 0 := ⟨B.exec, B.bytes, hml, B.returns, findClass_of_methodNamed B.named, fun w hw => atoms_spec (ws := gq_w y_Lo_hasRoom b_Lo_hasRoom 1 (some .boolean)) B.pre w (List.mem_cons_of_mem _ hw), B.notSynchronized, hK, hN, hb0, Nat.le_refl _, Nat.le_refl _, Nat.le_refl _, Nat.le_refl _⟩
  obtain ⟨hx, hb, hml, hr, hown, hts, hlocks, hK, hN, hb0, hRf, hRc, hRs, hRl⟩ := id CX
  have hS : va_S (mx_A G) s.heap s.heap [] := va_S.rf
  have hl := lv_entry [.ref a0] (n := 1) (Nat.le_of_ble_eq_true rfl)
  rw [lg_entry_eq]
  generalize (lg_sl [.ref a0] ++ List.replicate (1 - (lg_sl [.ref a0]).length) Slot.unset).toArray = ls at hl ⊢
  have hl : lv_has ls 1 [(0, va_rf (some a0))] := hl
  unfold f_Lo_hasRoom at h
  refine mx_aload_n hx hb d_Lo_hasRoom_0 rfl (lv_at hl 0 rfl) ?_
  obtain ⟨x1, e2, h⟩ := mx_b h
  refine mx_geti hx hb hts i_Lo hown hK hM e2 (ci := 3) (C := R_Lo) (T := T_Lo) (N := 12) rfl 5 (by decide) (hts _ wd_49) d_Lo_hasRoom_1 ?_
  refine mx_aload_n hx hb d_Lo_hasRoom_4 rfl (lv_at hl 0 rfl) ?_
  obtain ⟨x3, e4, h⟩ := mx_b h
  refine mx_getr hx hb hts i_Lo hown hK hM e4 (ci := 3) (C := R_Lo) (T := T_Lo) (N := 12) rfl 4 (by decide) (hts _ wd_50) d_Lo_hasRoom_5 ?_
  obtain ⟨x5, e6, h⟩ := mx_b h
  refine mx_alen hx hb hK hM e6 rfl d_Lo_hasRoom_8 ?_
  refine lv_icmp_ge (tgt := 16) hx hb d_Lo_hasRoom_9 (by decide) (fun c7 => ?_) (fun c7 => ?_)
  · rw [if_pos c7] at h
    refine lv_iconst (v := 0) hx hb d_Lo_hasRoom_16 (by decide) ?_
    cases h
    exact W.zret hx hb hr rfl (fun t ht hW => ⟨⟨rfl, by rw [ht]; exact hM⟩, hS.F ht⟩) hS.2.2 d_Lo_hasRoom_17
  · rw [if_neg c7] at h
    refine lv_iconst (v := 1) hx hb d_Lo_hasRoom_12 (by decide) ?_
    refine lv_goto (tgt := 17) hx hb d_Lo_hasRoom_13 (by decide) ?_
    cases h
    exact W.zret hx hb hr rfl (fun t ht hW => ⟨⟨rfl, by rw [ht]; exact hM⟩, hS.F ht⟩) hS.2.2 d_Lo_hasRoom_17
set_option maxHeartbeats 4000000 in
set_option maxRecDepth 100000 in
theorem c_Op_init (l : Launch) (G : mx_G) (a0 : Nat) (v1 : Int32) (v2 : Option Nat) (v3 : Int64) (mem : mx_Mem) (q : mx_Mem) (h : f_Op_init a0 v1 v2 v3 mem = some q) : Met l y_Op_init (gq_w y_Op_init b_Op_init 5 none) { frames := 1, cells := 0, slots := 0, locals := 12 } (gq_P G [.ref a0, .int v1, va_rf v2, .long v3] mem) (gq_Q G none q) 0 0 (mx_A G) := by
  refine Met.ofW (cc := b_Op_init) (maxL := 5) (ret := none) (by decide) rfl ?_
  intro p e s m args below meth c s₁ B hml hv
  obtain ⟨rfl, hb0, hM, hK, hN⟩ := hv
  have CX : gq_C p (headSpec (gq_w y_Op_init b_Op_init 5 none) { frames := 1, cells := 0, slots := 0, locals := 12 }).room s m _ meth c G b_Op_init 5 none R_Op 1 0 0 12 := ⟨B.exec, B.bytes, hml, B.returns, findClass_of_methodNamed B.named, fun w hw => atoms_spec (ws := gq_w y_Op_init b_Op_init 5 none) B.pre w (List.mem_cons_of_mem _ hw), B.notSynchronized, hK, hN, hb0, Nat.le_refl _, Nat.le_refl _, Nat.le_refl _, Nat.le_refl _⟩
  have hin : meth.name = "<init>" := (name_of_methodNamed B.named B.method).1
  obtain ⟨hx, hb, hml, hr, hown, hts, hlocks, hK, hN, hb0, hRf, hRc, hRs, hRl⟩ := id CX
  have hS : va_S (mx_A G) s.heap s.heap [] := va_S.rf
  have hl := lv_entry [.ref a0, .int v1, va_rf v2, .long v3] (n := 5) (by simp [lg_sl, mx_cat, mx_cati, mx_catl, mx_catr])
  rw [lg_entry_eq]
  generalize (lg_sl [.ref a0, .int v1, va_rf v2, .long v3] ++ List.replicate (5 - (lg_sl [.ref a0, .int v1, va_rf v2, .long v3]).length) Slot.unset).toArray = ls at hl ⊢
  have hl : lv_has ls 5 [(0, va_rf (some a0)), (1, .int v1), (2, va_rf v2), (3, .long v3)] := by have h9 := hl; simp [lv_args, mx_cat, mx_cati, mx_catl, mx_catr] at h9; exact h9
  unfold f_Op_init at h
  refine mx_aload_n hx hb d_Op_init_0 rfl (lv_at hl 0 rfl) ?_
  refine W.objInit hx hb hown (hts _ wd_143) (hts _ wd_1) (hts _ wd_2) rfl (by rw [hml]; exact hl.1) rfl d_Op_init_1 (Nat.le_trans (Nat.le_of_ble_eq_true rfl) hRf) (Nat.le_trans (Nat.le_of_ble_eq_true rfl) hRl) ?_
  refine W.eq (g2 := F0 m 4 ls []) rfl ?_
  refine mx_aload_n hx hb d_Op_init_4 rfl (lv_at hl 0 rfl) ?_
  refine lv_iload_n hx hb d_Op_init_5 rfl (lv_at hl 1 rfl) ?_
  obtain ⟨m1, e2, h⟩ := mx_b h
  refine mx_putF hx hb hts i_Op t_Op t_Op_ok n_Op hown hK hM hS e2 (ci := 2) (C := R_Op) (T := T_Op) (N := 3) rfl 0 (by decide) (hts _ wd_144) rfl hin rfl (ty := .int) (by decide +kernel) rfl rfl d_Op_init_6 (fun H locs hM hS => ?_)
  refine mx_aload_n hx hb d_Op_init_9 rfl (lv_at hl 0 rfl) ?_
  refine mx_aload_n hx hb d_Op_init_10 rfl (lv_at hl 2 rfl) ?_
  obtain ⟨m3, e4, h⟩ := mx_b h
  refine mx_putF hx hb hts i_Op t_Op t_Op_ok n_Op hown hK hM hS e4 (ci := 2) (C := R_Op) (T := T_Op) (N := 3) rfl 1 (by decide) (hts _ wd_145) rfl hin rfl (ty := (.object "LateRoutes$Line")) (by decide +kernel) (mx_ref_nar _) (mx_ref_fit _) d_Op_init_11 (fun H locs hM hS => ?_)
  refine mx_aload_n hx hb d_Op_init_14 rfl (lv_at hl 0 rfl) ?_
  refine lv_lload_n hx hb d_Op_init_15 rfl (lv_at hl 3 rfl) ?_
  obtain ⟨m5, e6, h⟩ := mx_b h
  refine mx_putF hx hb hts i_Op t_Op t_Op_ok n_Op hown hK hM hS e6 (ci := 2) (C := R_Op) (T := T_Op) (N := 3) rfl 2 (by decide) (hts _ wd_146) rfl hin rfl (ty := .long) (by decide +kernel) rfl rfl d_Op_init_16 (fun H locs hM hS => ?_)
  cases h
  exact W.vret hx hb hr (fun t ht hW => ⟨⟨rfl, by rw [ht]; exact hM⟩, hS.F ht⟩) hS.2.2 d_Op_init_19
set_option maxHeartbeats 4000000 in
set_option maxRecDepth 100000 in
theorem c_Lo_addOption (l : Launch) (G : mx_G) (a0 : Nat) (v1 : Option Nat) (mem : mx_Mem) (q : Int32 × mx_Mem) (h : f_Lo_addOption a0 v1 mem = some q) : Met l y_Lo_addOption (gq_w y_Lo_addOption b_Lo_addOption 2 (some .int)) { frames := 1, cells := 0, slots := 0, locals := 20 } (gq_P G [.ref a0, va_rf v1] mem) (gq_Q G (some (.int q.1)) q.2) 0 0 (mx_A G) := by
  refine Met.ofW (cc := b_Lo_addOption) (maxL := 2) (ret := (some .int)) (by decide) rfl ?_
  intro p e s m args below meth c s₁ B hml hv
  obtain ⟨rfl, hb0, hM, hK, hN⟩ := hv
  have CX : gq_C p (headSpec (gq_w y_Lo_addOption b_Lo_addOption 2 (some .int)) { frames := 1, cells := 0, slots := 0, locals := 20 }).room s m _ meth c G b_Lo_addOption 2 (some .int) R_Lo 1 0 0 20 := ⟨B.exec, B.bytes, hml, B.returns, findClass_of_methodNamed B.named, fun w hw => atoms_spec (ws := gq_w y_Lo_addOption b_Lo_addOption 2 (some .int)) B.pre w (List.mem_cons_of_mem _ hw), B.notSynchronized, hK, hN, hb0, Nat.le_refl _, Nat.le_refl _, Nat.le_refl _, Nat.le_refl _⟩
  obtain ⟨hx, hb, hml, hr, hown, hts, hlocks, hK, hN, hb0, hRf, hRc, hRs, hRl⟩ := id CX
  have hS : va_S (mx_A G) s.heap s.heap [] := va_S.rf
  have hl := lv_entry [.ref a0, va_rf v1] (n := 2) (by simp [lg_sl, mx_cat, mx_cati, mx_catl, mx_catr])
  rw [lg_entry_eq]
  generalize (lg_sl [.ref a0, va_rf v1] ++ List.replicate (2 - (lg_sl [.ref a0, va_rf v1]).length) Slot.unset).toArray = ls at hl ⊢
  have hl : lv_has ls 2 [(0, va_rf (some a0)), (1, va_rf v1)] := by have h9 := hl; simp [lv_args, mx_cat, mx_cati, mx_catl, mx_catr] at h9; exact h9
  unfold f_Lo_addOption at h
  refine mx_aload_n hx hb d_Lo_addOption_0 rfl (lv_at hl 0 rfl) ?_
  obtain ⟨a4, e3, h⟩ := mx_b h
  obtain ⟨q1, e2, h⟩ := mx_b h
  have e5 := mx_c_eq e3
  refine W.eq (g2 := F0 m 1 ls [.ref a4]) (congrArg (fun z => F0 m 1 ls [va_rf z]) e5) ?_
  refine gq_go (va_runV (b := a4) (As := []) (rest := []) ⟨hx, hb, hml, hown, hts⟩ (c_Lo_hasRoom l G a4  _ _ e2) (cwV 0 hts (gq_gV wd_148 wd_149 wd_150 wd_66 wd_147) rfl rfl rfl (by decide +kernel) ⟨Nat.le_trans (Nat.le_of_ble_eq_true rfl) hRf, Nat.le_trans (Nat.le_of_ble_eq_true rfl) hRl⟩) (gq_preV hK hN hM hS hb0 e3 (C := R_Lo) (T := T_Lo) (N := 12) rfl) rfl rfl hl.1 rfl (lv_room (Nat.le_of_ble_eq_true rfl)) d_Lo_addOption_1 ⟨Nat.le_trans (Nat.le_of_ble_eq_true rfl) hRc, Nat.le_trans (Nat.le_of_ble_eq_true rfl) hRs⟩) hS (fun H locs hM hS => ?_)
  refine W.eq (g2 := F0 m 4 ls [.int q1.1]) rfl ?_
  refine lv_if_ne (tgt := 9) hx hb d_Lo_addOption_4 (by decide) (fun c6 => ?_) (fun c6 => ?_)
  · rw [if_neg c6] at h
    refine mx_aload_n hx hb d_Lo_addOption_9 rfl (lv_at hl 0 rfl) ?_
    obtain ⟨x7, e8, h⟩ := mx_b h
    refine mx_getr hx hb hts i_Lo hown hK hM e8 (ci := 3) (C := R_Lo) (T := T_Lo) (N := 12) rfl 4 (by decide) (hts _ wd_50) d_Lo_addOption_10 ?_
    refine mx_aload_n hx hb d_Lo_addOption_13 rfl (lv_at hl 0 rfl) ?_
    obtain ⟨x9, e10, h⟩ := mx_b h
    refine mx_geti hx hb hts i_Lo hown hK hM e10 (ci := 3) (C := R_Lo) (T := T_Lo) (N := 12) rfl 5 (by decide) (hts _ wd_49) d_Lo_addOption_14 ?_
    refine mx_aload_n hx hb d_Lo_addOption_17 rfl (lv_at hl 1 rfl) ?_
    obtain ⟨_, e11, h⟩ := mx_b h
    obtain ⟨m13, e12, h⟩ := mx_b h
    refine mx_aast hx hb hK hM hS e11 e12 rfl rfl d_Lo_addOption_18 (fun H locs hM hS => ?_)
    refine mx_aload_n hx hb d_Lo_addOption_19 rfl (lv_at hl 0 rfl) ?_
    refine lv_dup hx hb d_Lo_addOption_20 (mx_cat _) ?_
    obtain ⟨x14, e15, h⟩ := mx_b h
    refine mx_geti hx hb hts i_Lo hown hK hM e15 (ci := 3) (C := R_Lo) (T := T_Lo) (N := 12) rfl 5 (by decide) (hts _ wd_49) d_Lo_addOption_21 ?_
    refine lv_iconst (v := 1) hx hb d_Lo_addOption_24 (by decide) ?_
    refine lv_iadd hx hb d_Lo_addOption_25 ?_
    obtain ⟨m16, e17, h⟩ := mx_b h
    refine mx_put hx hb hts i_Lo t_Lo t_Lo_ok n_Lo hown hK hM hS e17 (ci := 3) (C := R_Lo) (T := T_Lo) (N := 12) rfl 5 (by decide) (hts _ wd_49) rfl (ty := .int) (by decide +kernel) rfl rfl d_Lo_addOption_26 (fun H locs hM hS => ?_)
    refine mx_aload_n hx hb d_Lo_addOption_29 rfl (lv_at hl 0 rfl) ?_
    obtain ⟨x18, e19, h⟩ := mx_b h
    refine mx_geti hx hb hts i_Lo hown hK hM e19 (ci := 3) (C := R_Lo) (T := T_Lo) (N := 12) rfl 6 (by decide) (hts _ wd_48) d_Lo_addOption_30 ?_
    refine lv_if_ge (tgt := 41) hx hb d_Lo_addOption_33 (by decide) (fun c20 => ?_) (fun c20 => ?_)
    · rw [if_pos c20] at h
      refine mx_aload_n hx hb d_Lo_addOption_41 rfl (lv_at hl 0 rfl) ?_
      obtain ⟨x21, e22, h⟩ := mx_b h
      refine mx_geti hx hb hts i_Lo hown hK hM e22 (ci := 3) (C := R_Lo) (T := T_Lo) (N := 12) rfl 5 (by decide) (hts _ wd_49) d_Lo_addOption_42 ?_
      refine lv_iconst (v := 1) hx hb d_Lo_addOption_45 (by decide) ?_
      refine lv_isub hx hb d_Lo_addOption_46 ?_
      cases h
      exact W.iret hx hb hr (fun t ht hW => ⟨⟨rfl, by rw [ht]; exact hM⟩, hS.F ht⟩) hS.2.2 d_Lo_addOption_47
    · rw [if_neg c20] at h
      refine mx_aload_n hx hb d_Lo_addOption_36 rfl (lv_at hl 0 rfl) ?_
      refine lv_iconst (v := 0) hx hb d_Lo_addOption_37 (by decide) ?_
      obtain ⟨m21, e22, h⟩ := mx_b h
      refine mx_put hx hb hts i_Lo t_Lo t_Lo_ok n_Lo hown hK hM hS e22 (ci := 3) (C := R_Lo) (T := T_Lo) (N := 12) rfl 6 (by decide) (hts _ wd_48) rfl (ty := .int) (by decide +kernel) rfl rfl d_Lo_addOption_38 (fun H locs hM hS => ?_)
      refine mx_aload_n hx hb d_Lo_addOption_41 rfl (lv_at hl 0 rfl) ?_
      obtain ⟨x23, e24, h⟩ := mx_b h
      refine mx_geti hx hb hts i_Lo hown hK hM e24 (ci := 3) (C := R_Lo) (T := T_Lo) (N := 12) rfl 5 (by decide) (hts _ wd_49) d_Lo_addOption_42 ?_
      refine lv_iconst (v := 1) hx hb d_Lo_addOption_45 (by decide) ?_
      refine lv_isub hx hb d_Lo_addOption_46 ?_
      cases h
      exact W.iret hx hb hr (fun t ht hW => ⟨⟨rfl, by rw [ht]; exact hM⟩, hS.F ht⟩) hS.2.2 d_Lo_addOption_47
  · rw [if_pos c6] at h
    refine lv_iconst (v := (-1)) hx hb d_Lo_addOption_7 (by decide) ?_
    cases h
    exact W.iret hx hb hr (fun t ht hW => ⟨⟨rfl, by rw [ht]; exact hM⟩, hS.F ht⟩) hS.2.2 d_Lo_addOption_8
end
section
set_option maxHeartbeats 4000000 in
set_option maxRecDepth 100000 in
theorem wfj_LR_option_94 {p : Program} {l : Launch} {e : Env} {R : Room} {s : State} {m : MethodId} {args : Array Value} {below : List Frame} {meth : Method} {c : Code} {G : mx_G} (q : Int32 × mx_Mem) (CX : gq_C p R s m args meth c G b_LR_option 9 (some .int) R_LR 4 1 3 80) (v0 : Option Nat) (v2 : Int32) (v4 : Int64) (v6 : Option Nat) (v7 : Option Nat) (mem : mx_Mem) (h : fj_LR_option_94 v0 v2 v4 v6 v7 mem = some q) (H : Heap) (locs : List Loc) (ls : Array Slot) (hl : lv_has ls 9 [(0, va_rf v0), (2, .int v2), (4, .long v4), (6, va_rf v6), (7, va_rf v7)]) (hM : mx_M vwCl G mem H) (hS : va_S (mx_A G) s.heap H locs) : W p l e R s m args below meth c H locs 0 0 (MQ below (gq_Q G (some (.int q.1)) q.2) args s 1 3 (mx_A G)) (F0 m 94 ls []) := by
  obtain ⟨hx, hb, hml, hr, hown, hts, hlocks, hK, hN, hb0, hRf, hRc, hRs, hRl⟩ := id CX
  rw [fj_LR_option_94] at h
  refine mx_aload hx hb d_LR_option_94 (lv_at hl 3 rfl) ?_
  obtain ⟨a4, e3, h⟩ := mx_b h
  obtain ⟨q1, e2, h⟩ := mx_b h
  have e5 := mx_c_eq e3
  refine W.eq (g2 := F0 m 96 ls [.ref a4]) (congrArg (fun z => F0 m 96 ls [va_rf z]) e5) ?_
  refine gq_go (va_runV (b := a4) (As := []) (rest := []) ⟨hx, hb, hml, hown, hts⟩ (c_Lo_hasRoom l G a4  _ _ e2) (cwV 0 hts (gq_gV wd_157 wd_149 wd_150 wd_66 wd_147) rfl rfl rfl (by decide +kernel) ⟨Nat.le_trans (Nat.le_of_ble_eq_true rfl) hRf, Nat.le_trans (Nat.le_of_ble_eq_true rfl) hRl⟩) (gq_preV hK hN hM hS hb0 e3 (C := R_Lo) (T := T_Lo) (N := 12) rfl) rfl rfl hl.1 rfl (lv_room (Nat.le_of_ble_eq_true rfl)) d_LR_option_96 ⟨Nat.le_trans (Nat.le_of_ble_eq_true rfl) hRc, Nat.le_trans (Nat.le_of_ble_eq_true rfl) hRs⟩) hS (fun H locs hM hS => ?_)
  refine W.eq (g2 := F0 m 99 ls [.int q1.1]) rfl ?_
  refine lv_if_ne (tgt := 105) hx hb d_LR_option_99 (by decide) (fun c6 => ?_) (fun c6 => ?_)
  · rw [if_neg c6] at h
    refine mx_aload hx hb d_LR_option_105 (lv_at hl 3 rfl) ?_
    obtain ⟨m7, e8, h⟩ := mx_b h
    refine mx_new (ci := 2) (fs := [.int 0, .null, .long 0]) (C := R_Op) (T := T_Op) (N := 3) hx hb hts i_Op t_Op t_Op_ok hown (hts _ wd_158) (hts _ wd_159) (hts _ wd_160) hK hM hS hb0 rfl (fun j hj => by rcases (show j = 0 ∨ j = 1 ∨ j = 2 by omega) with rfl | rfl | rfl <;> rfl) e8 d_LR_option_107 (Nat.le_trans (Nat.le_of_ble_eq_true rfl) hRc) (Nat.le_trans (Nat.le_of_ble_eq_true rfl) hRs) (fun H hM hS => ?_)
    refine W.widen (k := 1) (n := 3) (by decide) (by decide) ?_
    refine lv_dup hx hb d_LR_option_110 (mx_cat _) ?_
    refine lv_iload_n hx hb d_LR_option_111 rfl (lv_at hl 1 rfl) ?_
    refine mx_aload hx hb d_LR_option_112 (lv_at hl 4 rfl) ?_
    refine lv_lload hx hb d_LR_option_114 (lv_at hl 2 rfl) ?_
    obtain ⟨q9, e10, h⟩ := mx_b h
    refine gq_go (va_runI (b := (q1.2).1) (As := [.int v2, va_rf v7, .long v4]) (rest := [va_rf (some (q1.2).1), va_rf v6]) ⟨hx, hb, hml, hown, hts⟩ (c_Op_init l G ((q1.2).1) v2 v7 v4 _ _ e10) (cwI 3 hts (gq_gI wd_161) rfl rfl rfl (hts _ wd_160) (hts _ wd_162) (hts _ wd_163) rfl (by decide +kernel) ⟨Nat.le_trans (Nat.le_of_ble_eq_true rfl) hRf, Nat.le_trans (Nat.le_of_ble_eq_true rfl) hRl⟩) (gq_preS hK hN hM hS hb0) rfl rfl hl.1 rfl (lv_room (by simp [mx_cat, mx_cati, mx_catl, mx_catr])) d_LR_option_116 ⟨Nat.le_trans (Nat.le_of_ble_eq_true rfl) hRc, Nat.le_trans (Nat.le_of_ble_eq_true rfl) hRs⟩) hS (fun H locs hM hS => ?_)
    refine W.eq (g2 := F0 m 119 ls [va_rf (some (q1.2).1), va_rf v6]) rfl ?_
    obtain ⟨a15, e14, h⟩ := mx_b h
    obtain ⟨q12, e13, h⟩ := mx_b h
    have e16 := mx_c_eq e14
    refine W.eq (g2 := F0 m 119 ls [va_rf (some (q1.2).1), .ref a15]) (congrArg (fun z => F0 m 119 ls [va_rf (some (q1.2).1), va_rf z]) e16) ?_
    refine gq_go (va_runV (b := a15) (As := [va_rf (some (q1.2).1)]) (rest := []) ⟨hx, hb, hml, hown, hts⟩ (c_Lo_addOption l G a15 (some (q1.2).1) _ _ e13) (cwV 1 hts (gq_gV wd_165 wd_166 wd_167 wd_66 wd_164) rfl rfl rfl (by decide +kernel) ⟨Nat.le_trans (Nat.le_of_ble_eq_true rfl) hRf, Nat.le_trans (Nat.le_of_ble_eq_true rfl) hRl⟩) (gq_preV hK hN hM hS hb0 e14 (C := R_Lo) (T := T_Lo) (N := 12) rfl) rfl rfl hl.1 rfl (lv_room (Nat.le_of_ble_eq_true rfl)) d_LR_option_119 ⟨Nat.le_trans (Nat.le_of_ble_eq_true rfl) hRc, Nat.le_trans (Nat.le_of_ble_eq_true rfl) hRs⟩) hS (fun H locs hM hS => ?_)
    refine W.eq (g2 := F0 m 122 ls [.int q12.1]) rfl ?_
    refine lv_istore (lv' := [(8, .int q12.1), (0, va_rf v0), (2, .int v2), (4, .long v4), (6, va_rf v6), (7, va_rf v7)]) hx hb d_LR_option_122 hl (by decide) (by simp [mx_cat, mx_cati, mx_catl, mx_catr]) (fun ls hl => ?_)
    refine mx_aload_n hx hb d_LR_option_124 rfl (lv_at hl 1 rfl) ?_
    obtain ⟨a20, e19, h⟩ := mx_b h
    obtain ⟨q17, e18, h⟩ := mx_b h
    have e21 := mx_c_eq e19
    refine W.eq (g2 := F0 m 125 ls [.ref a20]) (congrArg (fun z => F0 m 125 ls [va_rf z]) e21) ?_
    refine gq_go (va_runV (b := a20) (As := []) (rest := []) ⟨hx, hb, hml, hown, hts⟩ (c_LR_settle l G a20  _ _ e18) (cwV 0 hts (gq_gV wd_106 wd_107 wd_108 wd_38 wd_105) rfl rfl rfl (by decide +kernel) ⟨Nat.le_trans (Nat.le_of_ble_eq_true rfl) hRf, Nat.le_trans (Nat.le_of_ble_eq_true rfl) hRl⟩) (gq_preV hK hN hM hS hb0 e19 (C := R_LR) (T := T_LR) (N := 5) rfl) rfl rfl hl.1 rfl (lv_room (Nat.le_of_ble_eq_true rfl)) d_LR_option_125 ⟨Nat.le_trans (Nat.le_of_ble_eq_true rfl) hRc, Nat.le_trans (Nat.le_of_ble_eq_true rfl) hRs⟩) hS (fun H locs hM hS => ?_)
    refine W.eq (g2 := F0 m 128 ls []) rfl ?_
    refine lv_iload hx hb d_LR_option_128 (lv_at hl 0 rfl) ?_
    cases h
    exact W.iret hx hb hr (fun t ht hW => ⟨⟨rfl, by rw [ht]; exact hM⟩, hS.F ht⟩) hS.2.2 d_LR_option_130
  · rw [if_pos c6] at h
    refine lv_bipush (v := (-14)) hx hb d_LR_option_102 (by decide) ?_
    cases h
    refine W.widen (k := 1) (n := 3) (by decide) (by decide) ?_
    exact W.iret hx hb hr (fun t ht hW => ⟨⟨rfl, by rw [ht]; exact hM⟩, hS.F ht⟩) hS.2.2 d_LR_option_104
set_option maxHeartbeats 4000000 in
set_option maxRecDepth 100000 in
theorem wfj_LR_option_41 {p : Program} {l : Launch} {e : Env} {R : Room} {s : State} {m : MethodId} {args : Array Value} {below : List Frame} {meth : Method} {c : Code} {G : mx_G} (q : Int32 × mx_Mem) (CX : gq_C p R s m args meth c G b_LR_option 9 (some .int) R_LR 4 1 3 80) (v0 : Option Nat) (v2 : Int32) (v4 : Int64) (v6 : Option Nat) (v7 : Option Nat) (mem : mx_Mem) (h : fj_LR_option_41 v0 v2 v4 v6 v7 mem = some q) (H : Heap) (locs : List Loc) (ls : Array Slot) (hl : lv_has ls 9 [(0, va_rf v0), (2, .int v2), (4, .long v4), (6, va_rf v6), (7, va_rf v7)]) (hM : mx_M vwCl G mem H) (hS : va_S (mx_A G) s.heap H locs) : W p l e R s m args below meth c H locs 0 0 (MQ below (gq_Q G (some (.int q.1)) q.2) args s 1 3 (mx_A G)) (F0 m 41 ls []) := by
  obtain ⟨hx, hb, hml, hr, hown, hts, hlocks, hK, hN, hb0, hRf, hRc, hRs, hRl⟩ := id CX
  rw [fj_LR_option_41] at h
  refine lv_iload_n hx hb d_LR_option_41 rfl (lv_at hl 1 rfl) ?_
  refine lv_i2l hx hb d_LR_option_42 rfl ?_
  refine lv_lconst (v := 0) hx hb d_LR_option_43 (by decide) ?_
  refine lv_ldc2 (v := 2) hx hb hown (hts _ wd_155) d_LR_option_44 ?_
  obtain ⟨q1, e2, h⟩ := mx_b h
  refine gq_go (va_runS (As := [.long v2.toInt64, .long 0, .long 2]) (rest := []) ⟨hx, hb, hml, hown, hts⟩ (c_LR_isWithin l G v2.toInt64 0 2 _ _ e2) (cwS 3 hts (gq_gS wd_36 wd_37 wd_38 wd_35) rfl rfl rfl (by decide +kernel) ⟨Nat.le_trans (Nat.le_of_ble_eq_true rfl) hRf, Nat.le_trans (Nat.le_of_ble_eq_true rfl) hRl⟩) (gq_preS hK hN hM hS hb0) rfl rfl hl.1 rfl (lv_room (Nat.le_of_ble_eq_true rfl)) d_LR_option_47 ⟨Nat.le_trans (Nat.le_of_ble_eq_true rfl) hRc, Nat.le_trans (Nat.le_of_ble_eq_true rfl) hRs⟩) hS (fun H locs hM hS => ?_)
  refine W.eq (g2 := F0 m 50 ls [.int q1.1]) rfl ?_
  refine lv_if_eq (tgt := 65) hx hb d_LR_option_50 (by decide) (fun c4 => ?_) (fun c4 => ?_)
  · rw [if_pos c4] at h
    refine lv_bipush (v := (-12)) hx hb d_LR_option_65 (by decide) ?_
    cases h
    refine W.widen (k := 1) (n := 3) (by decide) (by decide) ?_
    exact W.iret hx hb hr (fun t ht hW => ⟨⟨rfl, by rw [ht]; exact hM⟩, hS.F ht⟩) hS.2.2 d_LR_option_67
  · rw [if_neg c4] at h
    refine lv_lload hx hb d_LR_option_53 (lv_at hl 2 rfl) ?_
    refine lv_lconst (v := 0) hx hb d_LR_option_55 (by decide) ?_
    refine lv_ldc2 (v := 10000) hx hb hown (hts _ wd_100) d_LR_option_56 ?_
    obtain ⟨q5, e6, h⟩ := mx_b h
    refine gq_go (va_runS (As := [.long v4, .long 0, .long 10000]) (rest := []) ⟨hx, hb, hml, hown, hts⟩ (c_LR_isWithin l G v4 0 10000 _ _ e6) (cwS 3 hts (gq_gS wd_36 wd_37 wd_38 wd_35) rfl rfl rfl (by decide +kernel) ⟨Nat.le_trans (Nat.le_of_ble_eq_true rfl) hRf, Nat.le_trans (Nat.le_of_ble_eq_true rfl) hRl⟩) (gq_preS hK hN hM hS hb0) rfl rfl hl.1 rfl (lv_room (Nat.le_of_ble_eq_true rfl)) d_LR_option_59 ⟨Nat.le_trans (Nat.le_of_ble_eq_true rfl) hRc, Nat.le_trans (Nat.le_of_ble_eq_true rfl) hRs⟩) hS (fun H locs hM hS => ?_)
    refine W.eq (g2 := F0 m 62 ls [.int q5.1]) rfl ?_
    refine lv_if_ne (tgt := 68) hx hb d_LR_option_62 (by decide) (fun c8 => ?_) (fun c8 => ?_)
    · rw [if_neg c8] at h
      refine mx_aload hx hb d_LR_option_68 (lv_at hl 3 rfl) ?_
      obtain ⟨a12, e11, h⟩ := mx_b h
      obtain ⟨q9, e10, h⟩ := mx_b h
      have e13 := mx_c_eq e11
      refine W.eq (g2 := F0 m 70 ls [.ref a12]) (congrArg (fun z => F0 m 70 ls [va_rf z]) e13) ?_
      refine gq_go (va_runV (b := a12) (As := []) (rest := []) ⟨hx, hb, hml, hown, hts⟩ (c_Lo_isDirect l G a12  _ _ e10) (cwV 0 hts (gq_gV wd_156 wd_76 wd_77 wd_66 wd_74) rfl rfl rfl (by decide +kernel) ⟨Nat.le_trans (Nat.le_of_ble_eq_true rfl) hRf, Nat.le_trans (Nat.le_of_ble_eq_true rfl) hRl⟩) (gq_preV hK hN hM hS hb0 e11 (C := R_Lo) (T := T_Lo) (N := 12) rfl) rfl rfl hl.1 rfl (lv_room (Nat.le_of_ble_eq_true rfl)) d_LR_option_70 ⟨Nat.le_trans (Nat.le_of_ble_eq_true rfl) hRc, Nat.le_trans (Nat.le_of_ble_eq_true rfl) hRs⟩) hS (fun H locs hM hS => ?_)
      refine W.eq (g2 := F0 m 73 ls [.int q9.1]) rfl ?_
      refine lv_if_ne (tgt := 91) hx hb d_LR_option_73 (by decide) (fun c14 => ?_) (fun c14 => ?_)
      · rw [if_neg c14] at h
        refine lv_bipush (v := (-13)) hx hb d_LR_option_91 (by decide) ?_
        cases h
        refine W.widen (k := 1) (n := 3) (by decide) (by decide) ?_
        exact W.iret hx hb hr (fun t ht hW => ⟨⟨rfl, by rw [ht]; exact hM⟩, hS.F ht⟩) hS.2.2 d_LR_option_93
      · rw [if_pos c14] at h
        refine mx_aload hx hb d_LR_option_76 (lv_at hl 4 rfl) ?_
        refine mx_ifnull (tgt := 94) hx hb d_LR_option_78 (by decide) (fun c15 => ?_) (fun c15 => ?_)
        · rw [if_pos c15] at h
          exact wfj_LR_option_94 q CX _ _ _ _ _ _ h _ _ _ (lv_sub hl [0, 1, 2, 3, 4] rfl) hM hS
        · rw [if_neg c15] at h
          refine mx_aload hx hb d_LR_option_81 (lv_at hl 3 rfl) ?_
          refine mx_aload hx hb d_LR_option_83 (lv_at hl 4 rfl) ?_
          obtain ⟨a19, e18, h⟩ := mx_b h
          obtain ⟨q16, e17, h⟩ := mx_b h
          have e20 := mx_c_eq e18
          refine W.eq (g2 := F0 m 85 ls [va_rf v7, .ref a19]) (congrArg (fun z => F0 m 85 ls [va_rf v7, va_rf z]) e20) ?_
          refine gq_go (va_runV (b := a19) (As := [va_rf v7]) (rest := []) ⟨hx, hb, hml, hown, hts⟩ (c_Lo_canGoOnBy l G a19 v7 _ _ e17) (cwV 1 hts (gq_gV wd_169 wd_170 wd_171 wd_66 wd_168) rfl rfl rfl (by decide +kernel) ⟨Nat.le_trans (Nat.le_of_ble_eq_true rfl) hRf, Nat.le_trans (Nat.le_of_ble_eq_true rfl) hRl⟩) (gq_preV hK hN hM hS hb0 e18 (C := R_Lo) (T := T_Lo) (N := 12) rfl) rfl rfl hl.1 rfl (lv_room (Nat.le_of_ble_eq_true rfl)) d_LR_option_85 ⟨Nat.le_trans (Nat.le_of_ble_eq_true rfl) hRc, Nat.le_trans (Nat.le_of_ble_eq_true rfl) hRs⟩) hS (fun H locs hM hS => ?_)
          refine W.eq (g2 := F0 m 88 ls [.int q16.1]) rfl ?_
          refine lv_if_ne (tgt := 94) hx hb d_LR_option_88 (by decide) (fun c21 => ?_) (fun c21 => ?_)
          · rw [if_neg c21] at h
            exact wfj_LR_option_94 q CX _ _ _ _ _ _ h _ _ _ (lv_sub hl [0, 1, 2, 3, 4] rfl) hM hS
          · rw [if_pos c21] at h
            refine lv_bipush (v := (-13)) hx hb d_LR_option_91 (by decide) ?_
            cases h
            refine W.widen (k := 1) (n := 3) (by decide) (by decide) ?_
            exact W.iret hx hb hr (fun t ht hW => ⟨⟨rfl, by rw [ht]; exact hM⟩, hS.F ht⟩) hS.2.2 d_LR_option_93
    · rw [if_pos c8] at h
      refine lv_bipush (v := (-12)) hx hb d_LR_option_65 (by decide) ?_
      cases h
      refine W.widen (k := 1) (n := 3) (by decide) (by decide) ?_
      exact W.iret hx hb hr (fun t ht hW => ⟨⟨rfl, by rw [ht]; exact hM⟩, hS.F ht⟩) hS.2.2 d_LR_option_67
set_option maxHeartbeats 4000000 in
set_option maxRecDepth 100000 in
theorem c_LR_option (l : Launch) (G : mx_G) (a0 : Nat) (v1 : Int32) (v2 : Int32) (v3 : Int32) (v4 : Int64) (mem : mx_Mem) (q : Int32 × mx_Mem) (h : f_LR_option a0 v1 v2 v3 v4 mem = some q) : Met l y_LR_option (gq_w y_LR_option b_LR_option 9 (some .int)) { frames := 4, cells := 1, slots := 3, locals := 80 } (gq_P G [.ref a0, .int v1, .int v2, .int v3, .long v4] mem) (gq_Q G (some (.int q.1)) q.2) 1 3 (mx_A G) := by
  refine Met.ofW (cc := b_LR_option) (maxL := 9) (ret := (some .int)) (by decide) rfl ?_
  intro p e s m args below meth c s₁ B hml hv
  obtain ⟨rfl, hb0, hM, hK, hN⟩ := hv
  have CX : gq_C p (headSpec (gq_w y_LR_option b_LR_option 9 (some .int)) { frames := 4, cells := 1, slots := 3, locals := 80 }).room s m _ meth c G b_LR_option 9 (some .int) R_LR 4 1 3 80 := ⟨B.exec, B.bytes, hml, B.returns, findClass_of_methodNamed B.named, fun w hw => atoms_spec (ws := gq_w y_LR_option b_LR_option 9 (some .int)) B.pre w (List.mem_cons_of_mem _ hw), B.notSynchronized, hK, hN, hb0, Nat.le_refl _, Nat.le_refl _, Nat.le_refl _, Nat.le_refl _⟩
  obtain ⟨hx, hb, hml, hr, hown, hts, hlocks, hK, hN, hb0, hRf, hRc, hRs, hRl⟩ := id CX
  have hS : va_S (mx_A G) s.heap s.heap [] := va_S.rf
  have hl := lv_entry [.ref a0, .int v1, .int v2, .int v3, .long v4] (n := 9) (Nat.le_of_ble_eq_true rfl)
  rw [lg_entry_eq]
  generalize (lg_sl [.ref a0, .int v1, .int v2, .int v3, .long v4] ++ List.replicate (9 - (lg_sl [.ref a0, .int v1, .int v2, .int v3, .long v4]).length) Slot.unset).toArray = ls at hl ⊢
  have hl : lv_has ls 9 [(0, va_rf (some a0)), (1, .int v1), (2, .int v2), (3, .int v3), (4, .long v4)] := hl
  unfold f_LR_option at h
  refine mx_aload_n hx hb d_LR_option_0 rfl (lv_at hl 0 rfl) ?_
  refine lv_iload_n hx hb d_LR_option_1 rfl (lv_at hl 1 rfl) ?_
  obtain ⟨a4, e3, h⟩ := mx_b h
  obtain ⟨q1, e2, h⟩ := mx_b h
  have e5 := mx_c_eq e3
  refine W.eq (g2 := F0 m 2 ls [.int v1, .ref a4]) (congrArg (fun z => F0 m 2 ls [.int v1, va_rf z]) e5) ?_
  refine gq_go (va_runV (b := a4) (As := [.int v1]) (rest := []) ⟨hx, hb, hml, hown, hts⟩ (c_LR_findLoad l G a4 v1 _ _ e2) (cwV 1 hts (gq_gV wd_152 wd_153 wd_154 wd_38 wd_151) rfl rfl rfl (by decide +kernel) ⟨Nat.le_trans (Nat.le_of_ble_eq_true rfl) hRf, Nat.le_trans (Nat.le_of_ble_eq_true rfl) hRl⟩) (gq_preV hK hN hM hS hb0 e3 (C := R_LR) (T := T_LR) (N := 5) rfl) rfl rfl hl.1 rfl (lv_room (Nat.le_of_ble_eq_true rfl)) d_LR_option_2 ⟨Nat.le_trans (Nat.le_of_ble_eq_true rfl) hRc, Nat.le_trans (Nat.le_of_ble_eq_true rfl) hRs⟩) hS (fun H locs hM hS => ?_)
  refine W.eq (g2 := F0 m 5 ls [va_rf q1.1]) rfl ?_
  refine mx_astore (lv' := [(6, va_rf q1.1), (0, va_rf (some a0)), (1, .int v1), (2, .int v2), (3, .int v3), (4, .long v4)]) hx hb d_LR_option_5 hl (by decide) rfl (fun ls hl => ?_)
  refine lv_iload_n hx hb d_LR_option_7 rfl (lv_at hl 3 rfl) ?_
  refine lv_iconst (v := 2) hx hb d_LR_option_8 (by decide) ?_
  refine lv_icmp_ne (tgt := 16) hx hb d_LR_option_9 (by decide) (fun c6 => ?_) (fun c6 => ?_)
  · rw [if_neg c6] at h
    refine mx_aload_n hx hb d_LR_option_16 rfl (lv_at hl 1 rfl) ?_
    refine lv_iload_n hx hb d_LR_option_17 rfl (lv_at hl 4 rfl) ?_
    obtain ⟨a10, e9, h⟩ := mx_b h
    obtain ⟨q7, e8, h⟩ := mx_b h
    have e11 := mx_c_eq e9
    refine W.eq (g2 := F0 m 18 ls [.int v3, .ref a10]) (congrArg (fun z => F0 m 18 ls [.int v3, va_rf z]) e11) ?_
    refine gq_go (va_runV (b := a10) (As := [.int v3]) (rest := []) ⟨hx, hb, hml, hown, hts⟩ (c_LR_findLine l G a10 v3 _ _ e8) (cwV 1 hts (gq_gV wd_123 wd_124 wd_125 wd_38 wd_122) rfl rfl rfl (by decide +kernel) ⟨Nat.le_trans (Nat.le_of_ble_eq_true rfl) hRf, Nat.le_trans (Nat.le_of_ble_eq_true rfl) hRl⟩) (gq_preV hK hN hM hS hb0 e9 (C := R_LR) (T := T_LR) (N := 5) rfl) rfl rfl hl.1 rfl (lv_room (Nat.le_of_ble_eq_true rfl)) d_LR_option_18 ⟨Nat.le_trans (Nat.le_of_ble_eq_true rfl) hRc, Nat.le_trans (Nat.le_of_ble_eq_true rfl) hRs⟩) hS (fun H locs hM hS => ?_)
    refine W.eq (g2 := F0 m 21 ls [va_rf q7.1]) rfl ?_
    refine mx_astore (lv' := [(7, va_rf q7.1), (6, va_rf q1.1), (0, va_rf (some a0)), (1, .int v1), (2, .int v2), (3, .int v3), (4, .long v4)]) hx hb d_LR_option_21 hl (by decide) (by simp [mx_cat, mx_cati, mx_catl, mx_catr]) (fun ls hl => ?_)
    refine mx_aload hx hb d_LR_option_23 (lv_at hl 1 rfl) ?_
    refine mx_ifnull (tgt := 38) hx hb d_LR_option_25 (by decide) (fun c12 => ?_) (fun c12 => ?_)
    · rw [if_pos c12] at h
      refine lv_bipush (v := (-11)) hx hb d_LR_option_38 (by decide) ?_
      cases h
      refine W.widen (k := 1) (n := 3) (by decide) (by decide) ?_
      exact W.iret hx hb hr (fun t ht hW => ⟨⟨rfl, by rw [ht]; exact hM⟩, hS.F ht⟩) hS.2.2 d_LR_option_40
    · rw [if_neg c12] at h
      refine lv_iload_n hx hb d_LR_option_28 rfl (lv_at hl 4 rfl) ?_
      refine lv_iconst (v := 2) hx hb d_LR_option_29 (by decide) ?_
      refine lv_icmp_eq (tgt := 41) hx hb d_LR_option_30 (by decide) (fun c13 => ?_) (fun c13 => ?_)
      · rw [if_pos c13] at h
        exact wfj_LR_option_41 q CX _ _ _ _ _ _ h _ _ _ (lv_sub hl [2, 4, 6, 1, 0] rfl) hM hS
      · rw [if_neg c13] at h
        refine mx_aload hx hb d_LR_option_33 (lv_at hl 0 rfl) ?_
        refine mx_ifnonnull (tgt := 41) hx hb d_LR_option_35 (by decide) (fun c14 => ?_) (fun c14 => ?_)
        · rw [if_neg c14] at h
          exact wfj_LR_option_41 q CX _ _ _ _ _ _ h _ _ _ (lv_sub hl [2, 4, 6, 1, 0] rfl) hM hS
        · rw [if_pos c14] at h
          refine lv_bipush (v := (-11)) hx hb d_LR_option_38 (by decide) ?_
          cases h
          refine W.widen (k := 1) (n := 3) (by decide) (by decide) ?_
          exact W.iret hx hb hr (fun t ht hW => ⟨⟨rfl, by rw [ht]; exact hM⟩, hS.F ht⟩) hS.2.2 d_LR_option_40
  · rw [if_pos c6] at h
    refine mx_null hx hb d_LR_option_12 ?_
    refine lv_goto (tgt := 21) hx hb d_LR_option_13 (by decide) ?_
    refine mx_astore (lv' := [(7, va_rf none), (6, va_rf q1.1), (0, va_rf (some a0)), (1, .int v1), (2, .int v2), (3, .int v3), (4, .long v4)]) hx hb d_LR_option_21 hl (by decide) (by simp [mx_cat, mx_cati, mx_catl, mx_catr]) (fun ls hl => ?_)
    refine mx_aload hx hb d_LR_option_23 (lv_at hl 1 rfl) ?_
    refine mx_ifnull (tgt := 38) hx hb d_LR_option_25 (by decide) (fun c7 => ?_) (fun c7 => ?_)
    · rw [if_pos c7] at h
      refine lv_bipush (v := (-11)) hx hb d_LR_option_38 (by decide) ?_
      cases h
      refine W.widen (k := 1) (n := 3) (by decide) (by decide) ?_
      exact W.iret hx hb hr (fun t ht hW => ⟨⟨rfl, by rw [ht]; exact hM⟩, hS.F ht⟩) hS.2.2 d_LR_option_40
    · rw [if_neg c7] at h
      refine lv_iload_n hx hb d_LR_option_28 rfl (lv_at hl 4 rfl) ?_
      refine lv_iconst (v := 2) hx hb d_LR_option_29 (by decide) ?_
      refine lv_icmp_eq (tgt := 41) hx hb d_LR_option_30 (by decide) (fun c8 => ?_) (fun c8 => ?_)
      · rw [if_pos c8] at h
        exact wfj_LR_option_41 q CX _ _ _ _ _ _ h _ _ _ (lv_sub hl [2, 4, 6, 1, 0] rfl) hM hS
      · rw [if_neg c8] at h
        refine mx_aload hx hb d_LR_option_33 (lv_at hl 0 rfl) ?_
        refine mx_ifnonnull (tgt := 41) hx hb d_LR_option_35 (by decide) (fun c9 => ?_) (fun c9 => ?_)
        · rw [if_neg c9] at h
          exact wfj_LR_option_41 q CX _ _ _ _ _ _ h _ _ _ (lv_sub hl [2, 4, 6, 1, 0] rfl) hM hS
        · rw [if_pos c9] at h
          refine lv_bipush (v := (-11)) hx hb d_LR_option_38 (by decide) ?_
          cases h
          refine W.widen (k := 1) (n := 3) (by decide) (by decide) ?_
          exact W.iret hx hb hr (fun t ht hW => ⟨⟨rfl, by rw [ht]; exact hM⟩, hS.F ht⟩) hS.2.2 d_LR_option_40
set_option maxHeartbeats 4000000 in
set_option maxRecDepth 100000 in
theorem c_Mo_isLoad (l : Launch) (G : mx_G) (a0 : Nat) (v1 : Int32) (mem : mx_Mem) (q : Int32 × mx_Mem) (h : f_Mo_isLoad a0 v1 mem = some q) : Met l y_Mo_isLoad (gq_w y_Mo_isLoad b_Mo_isLoad 2 (some .boolean)) { frames := 0, cells := 0, slots := 0, locals := 0 } (gq_P G [.ref a0, .int v1] mem) (gq_Q G (some (.int q.1)) q.2) 0 0 (mx_A G) := by
  refine Met.ofW (cc := b_Mo_isLoad) (maxL := 2) (ret := (some .boolean)) (by decide) rfl ?_
  intro p e s m args below meth c s₁ B hml hv
  obtain ⟨rfl, hb0, hM, hK, hN⟩ := hv
  have CX : gq_C p (headSpec (gq_w y_Mo_isLoad b_Mo_isLoad 2 (some .boolean)) { frames := 0, cells := 0, slots := 0, locals := 0 }).room s m _ meth c G b_Mo_isLoad 2 (some .boolean) R_Mo 0 0 0 0 := ⟨B.exec, B.bytes, hml, B.returns, findClass_of_methodNamed B.named, fun w hw => atoms_spec (ws := gq_w y_Mo_isLoad b_Mo_isLoad 2 (some .boolean)) B.pre w (List.mem_cons_of_mem _ hw), B.notSynchronized, hK, hN, hb0, Nat.le_refl _, Nat.le_refl _, Nat.le_refl _, Nat.le_refl _⟩
  obtain ⟨hx, hb, hml, hr, hown, hts, hlocks, hK, hN, hb0, hRf, hRc, hRs, hRl⟩ := id CX
  have hS : va_S (mx_A G) s.heap s.heap [] := va_S.rf
  have hl := lv_entry [.ref a0, .int v1] (n := 2) (Nat.le_of_ble_eq_true rfl)
  rw [lg_entry_eq]
  generalize (lg_sl [.ref a0, .int v1] ++ List.replicate (2 - (lg_sl [.ref a0, .int v1]).length) Slot.unset).toArray = ls at hl ⊢
  have hl : lv_has ls 2 [(0, va_rf (some a0)), (1, .int v1)] := hl
  unfold f_Mo_isLoad at h
  refine lv_iload_n hx hb d_Mo_isLoad_0 rfl (lv_at hl 1 rfl) ?_
  refine lv_iconst (v := 1) hx hb d_Mo_isLoad_1 (by decide) ?_
  refine lv_icmp_lt (tgt := 17) hx hb d_Mo_isLoad_2 (by decide) (fun c1 => ?_) (fun c1 => ?_)
  · rw [if_pos c1] at h
    refine lv_iconst (v := 0) hx hb d_Mo_isLoad_17 (by decide) ?_
    cases h
    exact W.zret hx hb hr rfl (fun t ht hW => ⟨⟨rfl, by rw [ht]; exact hM⟩, hS.F ht⟩) hS.2.2 d_Mo_isLoad_18
  · rw [if_neg c1] at h
    refine lv_iload_n hx hb d_Mo_isLoad_5 rfl (lv_at hl 1 rfl) ?_
    refine mx_aload_n hx hb d_Mo_isLoad_6 rfl (lv_at hl 0 rfl) ?_
    obtain ⟨x2, e3, h⟩ := mx_b h
    refine mx_geti hx hb hts i_Mo hown hK hM e3 (ci := 4) (C := R_Mo) (T := T_Mo) (N := 23) rfl 9 (by decide) (hts _ wd_142) d_Mo_isLoad_7 ?_
    refine lv_icmp_gt (tgt := 17) hx hb d_Mo_isLoad_10 (by decide) (fun c4 => ?_) (fun c4 => ?_)
    · rw [if_pos c4] at h
      refine lv_iconst (v := 0) hx hb d_Mo_isLoad_17 (by decide) ?_
      cases h
      exact W.zret hx hb hr rfl (fun t ht hW => ⟨⟨rfl, by rw [ht]; exact hM⟩, hS.F ht⟩) hS.2.2 d_Mo_isLoad_18
    · rw [if_neg c4] at h
      refine lv_iconst (v := 1) hx hb d_Mo_isLoad_13 (by decide) ?_
      refine lv_goto (tgt := 18) hx hb d_Mo_isLoad_14 (by decide) ?_
      cases h
      exact W.zret hx hb hr rfl (fun t ht hW => ⟨⟨rfl, by rw [ht]; exact hM⟩, hS.F ht⟩) hS.2.2 d_Mo_isLoad_18
set_option maxHeartbeats 4000000 in
set_option maxRecDepth 100000 in
theorem c_Mo_isDirect (l : Launch) (G : mx_G) (a0 : Nat) (v1 : Int32) (mem : mx_Mem) (q : Int32 × mx_Mem) (h : f_Mo_isDirect a0 v1 mem = some q) : Met l y_Mo_isDirect (gq_w y_Mo_isDirect b_Mo_isDirect 2 (some .boolean)) { frames := 0, cells := 0, slots := 0, locals := 0 } (gq_P G [.ref a0, .int v1] mem) (gq_Q G (some (.int q.1)) q.2) 0 0 (mx_A G) := by
  refine Met.ofW (cc := b_Mo_isDirect) (maxL := 2) (ret := (some .boolean)) (by decide) rfl ?_
  intro p e s m args below meth c s₁ B hml hv
  obtain ⟨rfl, hb0, hM, hK, hN⟩ := hv
  have CX : gq_C p (headSpec (gq_w y_Mo_isDirect b_Mo_isDirect 2 (some .boolean)) { frames := 0, cells := 0, slots := 0, locals := 0 }).room s m _ meth c G b_Mo_isDirect 2 (some .boolean) R_Mo 0 0 0 0 := ⟨B.exec, B.bytes, hml, B.returns, findClass_of_methodNamed B.named, fun w hw => atoms_spec (ws := gq_w y_Mo_isDirect b_Mo_isDirect 2 (some .boolean)) B.pre w (List.mem_cons_of_mem _ hw), B.notSynchronized, hK, hN, hb0, Nat.le_refl _, Nat.le_refl _, Nat.le_refl _, Nat.le_refl _⟩
  obtain ⟨hx, hb, hml, hr, hown, hts, hlocks, hK, hN, hb0, hRf, hRc, hRs, hRl⟩ := id CX
  have hS : va_S (mx_A G) s.heap s.heap [] := va_S.rf
  have hl := lv_entry [.ref a0, .int v1] (n := 2) (Nat.le_of_ble_eq_true rfl)
  rw [lg_entry_eq]
  generalize (lg_sl [.ref a0, .int v1] ++ List.replicate (2 - (lg_sl [.ref a0, .int v1]).length) Slot.unset).toArray = ls at hl ⊢
  have hl : lv_has ls 2 [(0, va_rf (some a0)), (1, .int v1)] := hl
  unfold f_Mo_isDirect at h
  refine mx_aload_n hx hb d_Mo_isDirect_0 rfl (lv_at hl 0 rfl) ?_
  obtain ⟨x1, e2, h⟩ := mx_b h
  refine mx_getr hx hb hts i_Mo hown hK hM e2 (ci := 4) (C := R_Mo) (T := T_Mo) (N := 23) rfl 3 (by decide) (hts _ wd_13) d_Mo_isDirect_1 ?_
  refine mx_aload_n hx hb d_Mo_isDirect_4 rfl (lv_at hl 0 rfl) ?_
  obtain ⟨x3, e4, h⟩ := mx_b h
  refine mx_getr hx hb hts i_Mo hown hK hM e4 (ci := 4) (C := R_Mo) (T := T_Mo) (N := 23) rfl 10 (by decide) (hts _ wd_20) d_Mo_isDirect_5 ?_
  refine lv_iload_n hx hb d_Mo_isDirect_8 rfl (lv_at hl 1 rfl) ?_
  obtain ⟨x5, e6, h⟩ := mx_b h
  refine mx_iald hx hb hK hM e6 rfl d_Mo_isDirect_9 ?_
  obtain ⟨x7, e8, h⟩ := mx_b h
  refine mx_iald hx hb hK hM e8 rfl d_Mo_isDirect_10 ?_
  refine mx_aload_n hx hb d_Mo_isDirect_11 rfl (lv_at hl 0 rfl) ?_
  obtain ⟨x9, e10, h⟩ := mx_b h
  refine mx_getr hx hb hts i_Mo hown hK hM e10 (ci := 4) (C := R_Mo) (T := T_Mo) (N := 23) rfl 11 (by decide) (hts _ wd_21) d_Mo_isDirect_12 ?_
  refine lv_iload_n hx hb d_Mo_isDirect_15 rfl (lv_at hl 1 rfl) ?_
  obtain ⟨x11, e12, h⟩ := mx_b h
  refine mx_iald hx hb hK hM e12 rfl d_Mo_isDirect_16 ?_
  refine lv_icmp_ne (tgt := 24) hx hb d_Mo_isDirect_17 (by decide) (fun c13 => ?_) (fun c13 => ?_)
  · rw [if_neg c13] at h
    refine lv_iconst (v := 0) hx hb d_Mo_isDirect_24 (by decide) ?_
    cases h
    exact W.zret hx hb hr rfl (fun t ht hW => ⟨⟨rfl, by rw [ht]; exact hM⟩, hS.F ht⟩) hS.2.2 d_Mo_isDirect_25
  · rw [if_pos c13] at h
    refine lv_iconst (v := 1) hx hb d_Mo_isDirect_20 (by decide) ?_
    refine lv_goto (tgt := 25) hx hb d_Mo_isDirect_21 (by decide) ?_
    cases h
    exact W.zret hx hb hr rfl (fun t ht hW => ⟨⟨rfl, by rw [ht]; exact hM⟩, hS.F ht⟩) hS.2.2 d_Mo_isDirect_25
set_option maxHeartbeats 4000000 in
set_option maxRecDepth 100000 in
theorem wfj_Mo_option_128 {p : Program} {l : Launch} {e : Env} {R : Room} {s : State} {m : MethodId} {args : Array Value} {below : List Frame} {meth : Method} {c : Code} {G : mx_G} (q : Int32 × mx_Mem) (CX : gq_C p R s m args meth c G b_Mo_option 8 (some .int) R_Mo 1 0 0 25) (v0 : Option Nat) (v1 : Int32) (v2 : Int32) (v3 : Int32) (v4 : Int64) (mem : mx_Mem) (h : fj_Mo_option_128 v0 v1 v2 v3 v4 mem = some q) (H : Heap) (locs : List Loc) (ls : Array Slot) (hl : lv_has ls 8 [(0, va_rf v0), (1, .int v1), (2, .int v2), (3, .int v3), (4, .long v4)]) (hM : mx_M vwCl G mem H) (hS : va_S (mx_A G) s.heap H locs) : W p l e R s m args below meth c H locs 0 0 (MQ below (gq_Q G (some (.int q.1)) q.2) args s 0 0 (mx_A G)) (F0 m 128 ls []) := by
  obtain ⟨hx, hb, hml, hr, hown, hts, hlocks, hK, hN, hb0, hRf, hRc, hRs, hRl⟩ := id CX
  rw [fj_Mo_option_128] at h
  refine mx_aload_n hx hb d_Mo_option_128 rfl (lv_at hl 0 rfl) ?_
  obtain ⟨x1, e2, h⟩ := mx_b h
  refine mx_getr hx hb hts i_Mo hown hK hM e2 (ci := 4) (C := R_Mo) (T := T_Mo) (N := 23) rfl 14 (by decide) (hts _ wd_24) d_Mo_option_129 ?_
  refine lv_iload_n hx hb d_Mo_option_132 rfl (lv_at hl 1 rfl) ?_
  obtain ⟨x3, e4, h⟩ := mx_b h
  refine mx_iald hx hb hK hM e4 rfl d_Mo_option_133 ?_
  refine lv_iconst (v := 4) hx hb d_Mo_option_134 (by decide) ?_
  refine lv_icmp_ne (tgt := 141) hx hb d_Mo_option_135 (by decide) (fun c5 => ?_) (fun c5 => ?_)
  · rw [if_neg c5] at h
    refine lv_iconst (v := 4) hx hb d_Mo_option_141 (by decide) ?_
    refine lv_iload_n hx hb d_Mo_option_142 rfl (lv_at hl 1 rfl) ?_
    refine lv_imul hx hb d_Mo_option_143 ?_
    refine mx_aload_n hx hb d_Mo_option_144 rfl (lv_at hl 0 rfl) ?_
    obtain ⟨x6, e7, h⟩ := mx_b h
    refine mx_getr hx hb hts i_Mo hown hK hM e7 (ci := 4) (C := R_Mo) (T := T_Mo) (N := 23) rfl 14 (by decide) (hts _ wd_24) d_Mo_option_145 ?_
    refine lv_iload_n hx hb d_Mo_option_148 rfl (lv_at hl 1 rfl) ?_
    obtain ⟨x8, e9, h⟩ := mx_b h
    refine mx_iald hx hb hK hM e9 rfl d_Mo_option_149 ?_
    refine lv_iadd hx hb d_Mo_option_150 ?_
    refine lv_istore (lv' := [(7, .int (((4 * v1) + x8))), (0, va_rf v0), (1, .int v1), (2, .int v2), (3, .int v3), (4, .long v4)]) hx hb d_Mo_option_151 hl (by decide) rfl (fun ls hl => ?_)
    refine mx_aload_n hx hb d_Mo_option_153 rfl (lv_at hl 1 rfl) ?_
    obtain ⟨x10, e11, h⟩ := mx_b h
    refine mx_getr hx hb hts i_Mo hown hK hM e11 (ci := 4) (C := R_Mo) (T := T_Mo) (N := 23) rfl 16 (by decide) (hts _ wd_26) d_Mo_option_154 ?_
    refine lv_iload hx hb d_Mo_option_157 (lv_at hl 0 rfl) ?_
    refine lv_iload_n hx hb d_Mo_option_159 rfl (lv_at hl 3 rfl) ?_
    obtain ⟨m13, e12, h⟩ := mx_b h
    refine mx_iast hx hb hK hM hS e12 rfl d_Mo_option_160 (fun H locs hM hS => ?_)
    refine mx_aload_n hx hb d_Mo_option_161 rfl (lv_at hl 1 rfl) ?_
    obtain ⟨x14, e15, h⟩ := mx_b h
    refine mx_getr hx hb hts i_Mo hown hK hM e15 (ci := 4) (C := R_Mo) (T := T_Mo) (N := 23) rfl 17 (by decide) (hts _ wd_27) d_Mo_option_162 ?_
    refine lv_iload hx hb d_Mo_option_165 (lv_at hl 0 rfl) ?_
    refine lv_iload_n hx hb d_Mo_option_167 rfl (lv_at hl 3 rfl) ?_
    refine lv_iconst (v := 2) hx hb d_Mo_option_168 (by decide) ?_
    refine lv_icmp_ne (tgt := 176) hx hb d_Mo_option_169 (by decide) (fun c16 => ?_) (fun c16 => ?_)
    · rw [if_neg c16] at h
      refine lv_iload_n hx hb d_Mo_option_176 rfl (lv_at hl 4 rfl) ?_
      obtain ⟨m18, e17, h⟩ := mx_b h
      refine mx_iast hx hb hK hM hS e17 rfl d_Mo_option_177 (fun H locs hM hS => ?_)
      refine mx_aload_n hx hb d_Mo_option_178 rfl (lv_at hl 1 rfl) ?_
      obtain ⟨x19, e20, h⟩ := mx_b h
      refine mx_getr hx hb hts i_Mo hown hK hM e20 (ci := 4) (C := R_Mo) (T := T_Mo) (N := 23) rfl 18 (by decide) (hts _ wd_28) d_Mo_option_179 ?_
      refine lv_iload hx hb d_Mo_option_182 (lv_at hl 0 rfl) ?_
      refine lv_lload hx hb d_Mo_option_184 (lv_at hl 5 rfl) ?_
      obtain ⟨m22, e21, h⟩ := mx_b h
      refine mx_last hx hb hK hM hS e21 rfl d_Mo_option_186 (fun H locs hM hS => ?_)
      refine mx_aload_n hx hb d_Mo_option_187 rfl (lv_at hl 1 rfl) ?_
      obtain ⟨x23, e24, h⟩ := mx_b h
      refine mx_getr hx hb hts i_Mo hown hK hM e24 (ci := 4) (C := R_Mo) (T := T_Mo) (N := 23) rfl 14 (by decide) (hts _ wd_24) d_Mo_option_188 ?_
      refine lv_iload_n hx hb d_Mo_option_191 rfl (lv_at hl 2 rfl) ?_
      refine lv_dup2_11 hx hb d_Mo_option_192 rfl (mx_cat _) ?_
      obtain ⟨x25, e26, h⟩ := mx_b h
      refine mx_iald hx hb hK hM e26 rfl d_Mo_option_193 ?_
      refine lv_iconst (v := 1) hx hb d_Mo_option_194 (by decide) ?_
      refine lv_iadd hx hb d_Mo_option_195 ?_
      obtain ⟨m28, e27, h⟩ := mx_b h
      refine mx_iast hx hb hK hM hS e27 rfl d_Mo_option_196 (fun H locs hM hS => ?_)
      refine mx_aload_n hx hb d_Mo_option_197 rfl (lv_at hl 1 rfl) ?_
      obtain ⟨x29, e30, h⟩ := mx_b h
      refine mx_getr hx hb hts i_Mo hown hK hM e30 (ci := 4) (C := R_Mo) (T := T_Mo) (N := 23) rfl 14 (by decide) (hts _ wd_24) d_Mo_option_198 ?_
      refine lv_iload_n hx hb d_Mo_option_201 rfl (lv_at hl 2 rfl) ?_
      obtain ⟨x31, e32, h⟩ := mx_b h
      refine mx_iald hx hb hK hM e32 rfl d_Mo_option_202 ?_
      refine lv_iconst (v := 1) hx hb d_Mo_option_203 (by decide) ?_
      refine lv_isub hx hb d_Mo_option_204 ?_
      cases h
      exact W.iret hx hb hr (fun t ht hW => ⟨⟨rfl, by rw [ht]; exact hM⟩, hS.F ht⟩) hS.2.2 d_Mo_option_205
    · rw [if_pos c16] at h
      refine lv_iconst (v := 0) hx hb d_Mo_option_172 (by decide) ?_
      refine lv_goto (tgt := 177) hx hb d_Mo_option_173 (by decide) ?_
      obtain ⟨m18, e17, h⟩ := mx_b h
      refine mx_iast hx hb hK hM hS e17 rfl d_Mo_option_177 (fun H locs hM hS => ?_)
      refine mx_aload_n hx hb d_Mo_option_178 rfl (lv_at hl 1 rfl) ?_
      obtain ⟨x19, e20, h⟩ := mx_b h
      refine mx_getr hx hb hts i_Mo hown hK hM e20 (ci := 4) (C := R_Mo) (T := T_Mo) (N := 23) rfl 18 (by decide) (hts _ wd_28) d_Mo_option_179 ?_
      refine lv_iload hx hb d_Mo_option_182 (lv_at hl 0 rfl) ?_
      refine lv_lload hx hb d_Mo_option_184 (lv_at hl 5 rfl) ?_
      obtain ⟨m22, e21, h⟩ := mx_b h
      refine mx_last hx hb hK hM hS e21 rfl d_Mo_option_186 (fun H locs hM hS => ?_)
      refine mx_aload_n hx hb d_Mo_option_187 rfl (lv_at hl 1 rfl) ?_
      obtain ⟨x23, e24, h⟩ := mx_b h
      refine mx_getr hx hb hts i_Mo hown hK hM e24 (ci := 4) (C := R_Mo) (T := T_Mo) (N := 23) rfl 14 (by decide) (hts _ wd_24) d_Mo_option_188 ?_
      refine lv_iload_n hx hb d_Mo_option_191 rfl (lv_at hl 2 rfl) ?_
      refine lv_dup2_11 hx hb d_Mo_option_192 rfl (mx_cat _) ?_
      obtain ⟨x25, e26, h⟩ := mx_b h
      refine mx_iald hx hb hK hM e26 rfl d_Mo_option_193 ?_
      refine lv_iconst (v := 1) hx hb d_Mo_option_194 (by decide) ?_
      refine lv_iadd hx hb d_Mo_option_195 ?_
      obtain ⟨m28, e27, h⟩ := mx_b h
      refine mx_iast hx hb hK hM hS e27 rfl d_Mo_option_196 (fun H locs hM hS => ?_)
      refine mx_aload_n hx hb d_Mo_option_197 rfl (lv_at hl 1 rfl) ?_
      obtain ⟨x29, e30, h⟩ := mx_b h
      refine mx_getr hx hb hts i_Mo hown hK hM e30 (ci := 4) (C := R_Mo) (T := T_Mo) (N := 23) rfl 14 (by decide) (hts _ wd_24) d_Mo_option_198 ?_
      refine lv_iload_n hx hb d_Mo_option_201 rfl (lv_at hl 2 rfl) ?_
      obtain ⟨x31, e32, h⟩ := mx_b h
      refine mx_iald hx hb hK hM e32 rfl d_Mo_option_202 ?_
      refine lv_iconst (v := 1) hx hb d_Mo_option_203 (by decide) ?_
      refine lv_isub hx hb d_Mo_option_204 ?_
      cases h
      exact W.iret hx hb hr (fun t ht hW => ⟨⟨rfl, by rw [ht]; exact hM⟩, hS.F ht⟩) hS.2.2 d_Mo_option_205
  · rw [if_pos c5] at h
    refine lv_bipush (v := (-14)) hx hb d_Mo_option_138 (by decide) ?_
    cases h
    exact W.iret hx hb hr (fun t ht hW => ⟨⟨rfl, by rw [ht]; exact hM⟩, hS.F ht⟩) hS.2.2 d_Mo_option_140
set_option maxHeartbeats 4000000 in
set_option maxRecDepth 100000 in
theorem wfj_Mo_option_29 {p : Program} {l : Launch} {e : Env} {R : Room} {s : State} {m : MethodId} {args : Array Value} {below : List Frame} {meth : Method} {c : Code} {G : mx_G} (q : Int32 × mx_Mem) (CX : gq_C p R s m args meth c G b_Mo_option 8 (some .int) R_Mo 1 0 0 25) (v0 : Option Nat) (v1 : Int32) (v2 : Int32) (v3 : Int32) (v4 : Int64) (mem : mx_Mem) (h : fj_Mo_option_29 v0 v1 v2 v3 v4 mem = some q) (H : Heap) (locs : List Loc) (ls : Array Slot) (hl : lv_has ls 8 [(0, va_rf v0), (1, .int v1), (2, .int v2), (3, .int v3), (4, .long v4)]) (hM : mx_M vwCl G mem H) (hS : va_S (mx_A G) s.heap H locs) : W p l e R s m args below meth c H locs 0 0 (MQ below (gq_Q G (some (.int q.1)) q.2) args s 0 0 (mx_A G)) (F0 m 29 ls []) := by
  obtain ⟨hx, hb, hml, hr, hown, hts, hlocks, hK, hN, hb0, hRf, hRc, hRs, hRl⟩ := id CX
  rw [fj_Mo_option_29] at h
  refine lv_iload_n hx hb d_Mo_option_29 rfl (lv_at hl 2 rfl) ?_
  refine lv_i2l hx hb d_Mo_option_30 rfl ?_
  refine lv_lconst (v := 0) hx hb d_Mo_option_31 (by decide) ?_
  refine lv_ldc2 (v := 2) hx hb hown (hts _ wd_176) d_Mo_option_32 ?_
  obtain ⟨q1, e2, h⟩ := mx_b h
  refine gq_go (va_runS (As := [.long v2.toInt64, .long 0, .long 2]) (rest := []) ⟨hx, hb, hml, hown, hts⟩ (c_Mo_in l G v2.toInt64 0 2 _ _ e2) (cwS 3 hts (gq_gS wd_112 wd_113 wd_114 wd_111) rfl rfl rfl (by decide +kernel) ⟨Nat.le_trans (Nat.le_of_ble_eq_true rfl) hRf, Nat.le_trans (Nat.le_of_ble_eq_true rfl) hRl⟩) (gq_preS hK hN hM hS hb0) rfl rfl hl.1 rfl (lv_room (Nat.le_of_ble_eq_true rfl)) d_Mo_option_35 ⟨Nat.le_trans (Nat.le_of_ble_eq_true rfl) hRc, Nat.le_trans (Nat.le_of_ble_eq_true rfl) hRs⟩) hS (fun H locs hM hS => ?_)
  refine W.eq (g2 := F0 m 38 ls [.int q1.1]) rfl ?_
  refine lv_if_eq (tgt := 53) hx hb d_Mo_option_38 (by decide) (fun c4 => ?_) (fun c4 => ?_)
  · rw [if_pos c4] at h
    refine lv_bipush (v := (-12)) hx hb d_Mo_option_53 (by decide) ?_
    cases h
    exact W.iret hx hb hr (fun t ht hW => ⟨⟨rfl, by rw [ht]; exact hM⟩, hS.F ht⟩) hS.2.2 d_Mo_option_55
  · rw [if_neg c4] at h
    refine lv_lload hx hb d_Mo_option_41 (lv_at hl 4 rfl) ?_
    refine lv_lconst (v := 0) hx hb d_Mo_option_43 (by decide) ?_
    refine lv_ldc2 (v := 10000) hx hb hown (hts _ wd_115) d_Mo_option_44 ?_
    obtain ⟨q5, e6, h⟩ := mx_b h
    refine gq_go (va_runS (As := [.long v4, .long 0, .long 10000]) (rest := []) ⟨hx, hb, hml, hown, hts⟩ (c_Mo_in l G v4 0 10000 _ _ e6) (cwS 3 hts (gq_gS wd_112 wd_113 wd_114 wd_111) rfl rfl rfl (by decide +kernel) ⟨Nat.le_trans (Nat.le_of_ble_eq_true rfl) hRf, Nat.le_trans (Nat.le_of_ble_eq_true rfl) hRl⟩) (gq_preS hK hN hM hS hb0) rfl rfl hl.1 rfl (lv_room (Nat.le_of_ble_eq_true rfl)) d_Mo_option_47 ⟨Nat.le_trans (Nat.le_of_ble_eq_true rfl) hRc, Nat.le_trans (Nat.le_of_ble_eq_true rfl) hRs⟩) hS (fun H locs hM hS => ?_)
    refine W.eq (g2 := F0 m 50 ls [.int q5.1]) rfl ?_
    refine lv_if_ne (tgt := 56) hx hb d_Mo_option_50 (by decide) (fun c8 => ?_) (fun c8 => ?_)
    · rw [if_neg c8] at h
      refine mx_aload_n hx hb d_Mo_option_56 rfl (lv_at hl 0 rfl) ?_
      obtain ⟨x9, e10, h⟩ := mx_b h
      refine mx_getr hx hb hts i_Mo hown hK hM e10 (ci := 4) (C := R_Mo) (T := T_Mo) (N := 23) rfl 10 (by decide) (hts _ wd_20) d_Mo_option_57 ?_
      refine lv_iload_n hx hb d_Mo_option_60 rfl (lv_at hl 1 rfl) ?_
      obtain ⟨x11, e12, h⟩ := mx_b h
      refine mx_iald hx hb hK hM e12 rfl d_Mo_option_61 ?_
      refine lv_istore (lv' := [(6, .int x11), (0, va_rf v0), (1, .int v1), (2, .int v2), (3, .int v3), (4, .long v4)]) hx hb d_Mo_option_62 hl (by decide) rfl (fun ls hl => ?_)
      refine mx_aload_n hx hb d_Mo_option_64 rfl (lv_at hl 1 rfl) ?_
      refine lv_iload_n hx hb d_Mo_option_65 rfl (lv_at hl 2 rfl) ?_
      obtain ⟨a16, e15, h⟩ := mx_b h
      obtain ⟨q13, e14, h⟩ := mx_b h
      have e17 := mx_c_eq e15
      refine W.eq (g2 := F0 m 66 ls [.int v1, .ref a16]) (congrArg (fun z => F0 m 66 ls [.int v1, va_rf z]) e17) ?_
      refine gq_go (va_runV (b := a16) (As := [.int v1]) (rest := []) ⟨hx, hb, hml, hown, hts⟩ (c_Mo_isDirect l G a16 v1 _ _ e14) (cwV 1 hts (gq_gV wd_178 wd_179 wd_180 wd_114 wd_177) rfl rfl rfl (by decide +kernel) ⟨Nat.le_trans (Nat.le_of_ble_eq_true rfl) hRf, Nat.le_trans (Nat.le_of_ble_eq_true rfl) hRl⟩) (gq_preV hK hN hM hS hb0 e15 (C := R_Mo) (T := T_Mo) (N := 23) rfl) rfl rfl hl.1 rfl (lv_room (Nat.le_of_ble_eq_true rfl)) d_Mo_option_66 ⟨Nat.le_trans (Nat.le_of_ble_eq_true rfl) hRc, Nat.le_trans (Nat.le_of_ble_eq_true rfl) hRs⟩) hS (fun H locs hM hS => ?_)
      refine W.eq (g2 := F0 m 69 ls [.int q13.1]) rfl ?_
      refine lv_if_ne (tgt := 125) hx hb d_Mo_option_69 (by decide) (fun c18 => ?_) (fun c18 => ?_)
      · rw [if_neg c18] at h
        refine lv_bipush (v := (-13)) hx hb d_Mo_option_125 (by decide) ?_
        cases h
        exact W.iret hx hb hr (fun t ht hW => ⟨⟨rfl, by rw [ht]; exact hM⟩, hS.F ht⟩) hS.2.2 d_Mo_option_127
      · rw [if_pos c18] at h
        refine lv_iload_n hx hb d_Mo_option_72 rfl (lv_at hl 3 rfl) ?_
        refine lv_iconst (v := 2) hx hb d_Mo_option_73 (by decide) ?_
        refine lv_icmp_eq (tgt := 128) hx hb d_Mo_option_74 (by decide) (fun c19 => ?_) (fun c19 => ?_)
        · rw [if_pos c19] at h
          exact wfj_Mo_option_128 q CX _ _ _ _ _ _ h _ _ _ (lv_sub hl [1, 2, 3, 4, 5] rfl) hM hS
        · rw [if_neg c19] at h
          refine mx_aload_n hx hb d_Mo_option_77 rfl (lv_at hl 1 rfl) ?_
          obtain ⟨x20, e21, h⟩ := mx_b h
          refine mx_getr hx hb hts i_Mo hown hK hM e21 (ci := 4) (C := R_Mo) (T := T_Mo) (N := 23) rfl 2 (by decide) (hts _ wd_12) d_Mo_option_78 ?_
          refine lv_iload_n hx hb d_Mo_option_81 rfl (lv_at hl 4 rfl) ?_
          obtain ⟨x22, e23, h⟩ := mx_b h
          refine mx_iald hx hb hK hM e23 rfl d_Mo_option_82 ?_
          refine mx_aload_n hx hb d_Mo_option_83 rfl (lv_at hl 1 rfl) ?_
          obtain ⟨x24, e25, h⟩ := mx_b h
          refine mx_getr hx hb hts i_Mo hown hK hM e25 (ci := 4) (C := R_Mo) (T := T_Mo) (N := 23) rfl 3 (by decide) (hts _ wd_13) d_Mo_option_84 ?_
          refine lv_iload hx hb d_Mo_option_87 (lv_at hl 0 rfl) ?_
          obtain ⟨x26, e27, h⟩ := mx_b h
          refine mx_iald hx hb hK hM e27 rfl d_Mo_option_89 ?_
          refine lv_icmp_ne (tgt := 125) hx hb d_Mo_option_90 (by decide) (fun c28 => ?_) (fun c28 => ?_)
          · rw [if_neg c28] at h
            refine lv_bipush (v := (-13)) hx hb d_Mo_option_125 (by decide) ?_
            cases h
            exact W.iret hx hb hr (fun t ht hW => ⟨⟨rfl, by rw [ht]; exact hM⟩, hS.F ht⟩) hS.2.2 d_Mo_option_127
          · rw [if_pos c28] at h
            refine mx_aload_n hx hb d_Mo_option_93 rfl (lv_at hl 1 rfl) ?_
            obtain ⟨x29, e30, h⟩ := mx_b h
            refine mx_getr hx hb hts i_Mo hown hK hM e30 (ci := 4) (C := R_Mo) (T := T_Mo) (N := 23) rfl 3 (by decide) (hts _ wd_13) d_Mo_option_94 ?_
            refine lv_iload_n hx hb d_Mo_option_97 rfl (lv_at hl 4 rfl) ?_
            obtain ⟨x31, e32, h⟩ := mx_b h
            refine mx_iald hx hb hK hM e32 rfl d_Mo_option_98 ?_
            refine mx_aload_n hx hb d_Mo_option_99 rfl (lv_at hl 1 rfl) ?_
            obtain ⟨x33, e34, h⟩ := mx_b h
            refine mx_getr hx hb hts i_Mo hown hK hM e34 (ci := 4) (C := R_Mo) (T := T_Mo) (N := 23) rfl 11 (by decide) (hts _ wd_21) d_Mo_option_100 ?_
            refine lv_iload_n hx hb d_Mo_option_103 rfl (lv_at hl 2 rfl) ?_
            obtain ⟨x35, e36, h⟩ := mx_b h
            refine mx_iald hx hb hK hM e36 rfl d_Mo_option_104 ?_
            refine lv_icmp_ne (tgt := 125) hx hb d_Mo_option_105 (by decide) (fun c37 => ?_) (fun c37 => ?_)
            · rw [if_neg c37] at h
              refine lv_bipush (v := (-13)) hx hb d_Mo_option_125 (by decide) ?_
              cases h
              exact W.iret hx hb hr (fun t ht hW => ⟨⟨rfl, by rw [ht]; exact hM⟩, hS.F ht⟩) hS.2.2 d_Mo_option_127
            · rw [if_pos c37] at h
              refine mx_aload_n hx hb d_Mo_option_108 rfl (lv_at hl 1 rfl) ?_
              obtain ⟨x38, e39, h⟩ := mx_b h
              refine mx_getr hx hb hts i_Mo hown hK hM e39 (ci := 4) (C := R_Mo) (T := T_Mo) (N := 23) rfl 4 (by decide) (hts _ wd_15) d_Mo_option_109 ?_
              refine lv_iload_n hx hb d_Mo_option_112 rfl (lv_at hl 4 rfl) ?_
              obtain ⟨x40, e41, h⟩ := mx_b h
              refine mx_lald hx hb hK hM e41 rfl d_Mo_option_113 ?_
              refine mx_aload_n hx hb d_Mo_option_114 rfl (lv_at hl 1 rfl) ?_
              obtain ⟨x42, e43, h⟩ := mx_b h
              refine mx_getr hx hb hts i_Mo hown hK hM e43 (ci := 4) (C := R_Mo) (T := T_Mo) (N := 23) rfl 4 (by decide) (hts _ wd_15) d_Mo_option_115 ?_
              refine lv_iload hx hb d_Mo_option_118 (lv_at hl 0 rfl) ?_
              obtain ⟨x44, e45, h⟩ := mx_b h
              refine mx_lald hx hb hK hM e45 rfl d_Mo_option_120 ?_
              refine mx_lcmp_gt (tgt := 128) hx hb d_Mo_option_121 d_Mo_option_122 (by decide) (fun c46 => ?_) (fun c46 => ?_)
              · rw [if_pos c46] at h
                exact wfj_Mo_option_128 q CX _ _ _ _ _ _ h _ _ _ (lv_sub hl [1, 2, 3, 4, 5] rfl) hM hS
              · rw [if_neg c46] at h
                refine lv_bipush (v := (-13)) hx hb d_Mo_option_125 (by decide) ?_
                cases h
                exact W.iret hx hb hr (fun t ht hW => ⟨⟨rfl, by rw [ht]; exact hM⟩, hS.F ht⟩) hS.2.2 d_Mo_option_127
    · rw [if_pos c8] at h
      refine lv_bipush (v := (-12)) hx hb d_Mo_option_53 (by decide) ?_
      cases h
      exact W.iret hx hb hr (fun t ht hW => ⟨⟨rfl, by rw [ht]; exact hM⟩, hS.F ht⟩) hS.2.2 d_Mo_option_55
set_option maxHeartbeats 4000000 in
set_option maxRecDepth 100000 in
theorem c_Mo_option (l : Launch) (G : mx_G) (a0 : Nat) (v1 : Int32) (v2 : Int32) (v3 : Int32) (v4 : Int64) (mem : mx_Mem) (q : Int32 × mx_Mem) (h : f_Mo_option a0 v1 v2 v3 v4 mem = some q) : Met l y_Mo_option (gq_w y_Mo_option b_Mo_option 8 (some .int)) { frames := 1, cells := 0, slots := 0, locals := 25 } (gq_P G [.ref a0, .int v1, .int v2, .int v3, .long v4] mem) (gq_Q G (some (.int q.1)) q.2) 0 0 (mx_A G) := by
  refine Met.ofW (cc := b_Mo_option) (maxL := 8) (ret := (some .int)) (by decide) rfl ?_
  intro p e s m args below meth c s₁ B hml hv
  obtain ⟨rfl, hb0, hM, hK, hN⟩ := hv
  have CX : gq_C p (headSpec (gq_w y_Mo_option b_Mo_option 8 (some .int)) { frames := 1, cells := 0, slots := 0, locals := 25 }).room s m _ meth c G b_Mo_option 8 (some .int) R_Mo 1 0 0 25 := ⟨B.exec, B.bytes, hml, B.returns, findClass_of_methodNamed B.named, fun w hw => atoms_spec (ws := gq_w y_Mo_option b_Mo_option 8 (some .int)) B.pre w (List.mem_cons_of_mem _ hw), B.notSynchronized, hK, hN, hb0, Nat.le_refl _, Nat.le_refl _, Nat.le_refl _, Nat.le_refl _⟩
  obtain ⟨hx, hb, hml, hr, hown, hts, hlocks, hK, hN, hb0, hRf, hRc, hRs, hRl⟩ := id CX
  have hS : va_S (mx_A G) s.heap s.heap [] := va_S.rf
  have hl := lv_entry [.ref a0, .int v1, .int v2, .int v3, .long v4] (n := 8) (Nat.le_of_ble_eq_true rfl)
  rw [lg_entry_eq]
  generalize (lg_sl [.ref a0, .int v1, .int v2, .int v3, .long v4] ++ List.replicate (8 - (lg_sl [.ref a0, .int v1, .int v2, .int v3, .long v4]).length) Slot.unset).toArray = ls at hl ⊢
  have hl : lv_has ls 8 [(0, va_rf (some a0)), (1, .int v1), (2, .int v2), (3, .int v3), (4, .long v4)] := hl
  unfold f_Mo_option at h
  refine mx_aload_n hx hb d_Mo_option_0 rfl (lv_at hl 0 rfl) ?_
  refine lv_iconst (v := 0) hx hb d_Mo_option_1 (by decide) ?_
  obtain ⟨m1, e2, h⟩ := mx_b h
  refine mx_put hx hb hts i_Mo t_Mo t_Mo_ok n_Mo hown hK hM hS e2 (ci := 4) (C := R_Mo) (T := T_Mo) (N := 23) rfl 0 (by decide) (hts _ wd_109) rfl (ty := .int) (by decide +kernel) rfl rfl d_Mo_option_2 (fun H locs hM hS => ?_)
  refine mx_aload_n hx hb d_Mo_option_5 rfl (lv_at hl 0 rfl) ?_
  refine lv_iload_n hx hb d_Mo_option_6 rfl (lv_at hl 1 rfl) ?_
  obtain ⟨a6, e5, h⟩ := mx_b h
  obtain ⟨q3, e4, h⟩ := mx_b h
  have e7 := mx_c_eq e5
  refine W.eq (g2 := F0 m 7 ls [.int v1, .ref a6]) (congrArg (fun z => F0 m 7 ls [.int v1, va_rf z]) e7) ?_
  refine gq_go (va_runV (b := a6) (As := [.int v1]) (rest := []) ⟨hx, hb, hml, hown, hts⟩ (c_Mo_isLoad l G a6 v1 _ _ e4) (cwV 1 hts (gq_gV wd_173 wd_174 wd_175 wd_114 wd_172) rfl rfl rfl (by decide +kernel) ⟨Nat.le_trans (Nat.le_of_ble_eq_true rfl) hRf, Nat.le_trans (Nat.le_of_ble_eq_true rfl) hRl⟩) (gq_preV hK hN hM hS hb0 e5 (C := R_Mo) (T := T_Mo) (N := 23) rfl) rfl rfl hl.1 rfl (lv_room (Nat.le_of_ble_eq_true rfl)) d_Mo_option_7 ⟨Nat.le_trans (Nat.le_of_ble_eq_true rfl) hRc, Nat.le_trans (Nat.le_of_ble_eq_true rfl) hRs⟩) hS (fun H locs hM hS => ?_)
  refine W.eq (g2 := F0 m 10 ls [.int q3.1]) rfl ?_
  refine lv_if_eq (tgt := 26) hx hb d_Mo_option_10 (by decide) (fun c8 => ?_) (fun c8 => ?_)
  · rw [if_pos c8] at h
    refine lv_bipush (v := (-11)) hx hb d_Mo_option_26 (by decide) ?_
    cases h
    exact W.iret hx hb hr (fun t ht hW => ⟨⟨rfl, by rw [ht]; exact hM⟩, hS.F ht⟩) hS.2.2 d_Mo_option_28
  · rw [if_neg c8] at h
    refine lv_iload_n hx hb d_Mo_option_13 rfl (lv_at hl 2 rfl) ?_
    refine lv_iconst (v := 2) hx hb d_Mo_option_14 (by decide) ?_
    refine lv_icmp_eq (tgt := 29) hx hb d_Mo_option_15 (by decide) (fun c9 => ?_) (fun c9 => ?_)
    · rw [if_pos c9] at h
      exact wfj_Mo_option_29 q CX _ _ _ _ _ _ h _ _ _ (lv_sub hl [0, 1, 2, 3, 4] rfl) hM hS
    · rw [if_neg c9] at h
      refine mx_aload_n hx hb d_Mo_option_18 rfl (lv_at hl 0 rfl) ?_
      refine lv_iload_n hx hb d_Mo_option_19 rfl (lv_at hl 3 rfl) ?_
      obtain ⟨a13, e12, h⟩ := mx_b h
      obtain ⟨q10, e11, h⟩ := mx_b h
      have e14 := mx_c_eq e12
      refine W.eq (g2 := F0 m 20 ls [.int v3, .ref a13]) (congrArg (fun z => F0 m 20 ls [.int v3, va_rf z]) e14) ?_
      refine gq_go (va_runV (b := a13) (As := [.int v3]) (rest := []) ⟨hx, hb, hml, hown, hts⟩ (c_Mo_isLine l G a13 v3 _ _ e11) (cwV 1 hts (gq_gV wd_137 wd_138 wd_139 wd_114 wd_136) rfl rfl rfl (by decide +kernel) ⟨Nat.le_trans (Nat.le_of_ble_eq_true rfl) hRf, Nat.le_trans (Nat.le_of_ble_eq_true rfl) hRl⟩) (gq_preV hK hN hM hS hb0 e12 (C := R_Mo) (T := T_Mo) (N := 23) rfl) rfl rfl hl.1 rfl (lv_room (Nat.le_of_ble_eq_true rfl)) d_Mo_option_20 ⟨Nat.le_trans (Nat.le_of_ble_eq_true rfl) hRc, Nat.le_trans (Nat.le_of_ble_eq_true rfl) hRs⟩) hS (fun H locs hM hS => ?_)
      refine W.eq (g2 := F0 m 23 ls [.int q10.1]) rfl ?_
      refine lv_if_ne (tgt := 29) hx hb d_Mo_option_23 (by decide) (fun c15 => ?_) (fun c15 => ?_)
      · rw [if_neg c15] at h
        exact wfj_Mo_option_29 q CX _ _ _ _ _ _ h _ _ _ (lv_sub hl [0, 1, 2, 3, 4] rfl) hM hS
      · rw [if_pos c15] at h
        refine lv_bipush (v := (-11)) hx hb d_Mo_option_26 (by decide) ?_
        cases h
        exact W.iret hx hb hr (fun t ht hW => ⟨⟨rfl, by rw [ht]; exact hM⟩, hS.F ht⟩) hS.2.2 d_Mo_option_28
set_option maxHeartbeats 4000000 in
set_option maxRecDepth 100000 in
theorem c_LR_waits (l : Launch) (G : mx_G) (a0 : Nat) (v1 : Int32) (v2 : Int64) (mem : mx_Mem) (q : Int32 × mx_Mem) (h : f_LR_waits a0 v1 v2 mem = some q) : Met l y_LR_waits (gq_w y_LR_waits b_LR_waits 6 (some .int)) { frames := 4, cells := 0, slots := 0, locals := 80 } (gq_P G [.ref a0, .int v1, .long v2] mem) (gq_Q G (some (.int q.1)) q.2) 0 0 (mx_A G) := by
  refine Met.ofW (cc := b_LR_waits) (maxL := 6) (ret := (some .int)) (by decide) rfl ?_
  intro p e s m args below meth c s₁ B hml hv
  obtain ⟨rfl, hb0, hM, hK, hN⟩ := hv
  have CX : gq_C p (headSpec (gq_w y_LR_waits b_LR_waits 6 (some .int)) { frames := 4, cells := 0, slots := 0, locals := 80 }).room s m _ meth c G b_LR_waits 6 (some .int) R_LR 4 0 0 80 := ⟨B.exec, B.bytes, hml, B.returns, findClass_of_methodNamed B.named, fun w hw => atoms_spec (ws := gq_w y_LR_waits b_LR_waits 6 (some .int)) B.pre w (List.mem_cons_of_mem _ hw), B.notSynchronized, hK, hN, hb0, Nat.le_refl _, Nat.le_refl _, Nat.le_refl _, Nat.le_refl _⟩
  obtain ⟨hx, hb, hml, hr, hown, hts, hlocks, hK, hN, hb0, hRf, hRc, hRs, hRl⟩ := id CX
  have hS : va_S (mx_A G) s.heap s.heap [] := va_S.rf
  have hl := lv_entry [.ref a0, .int v1, .long v2] (n := 6) (Nat.le_of_ble_eq_true rfl)
  rw [lg_entry_eq]
  generalize (lg_sl [.ref a0, .int v1, .long v2] ++ List.replicate (6 - (lg_sl [.ref a0, .int v1, .long v2]).length) Slot.unset).toArray = ls at hl ⊢
  have hl : lv_has ls 6 [(0, va_rf (some a0)), (1, .int v1), (2, .long v2)] := hl
  unfold f_LR_waits at h
  refine mx_aload_n hx hb d_LR_waits_0 rfl (lv_at hl 0 rfl) ?_
  refine lv_iload_n hx hb d_LR_waits_1 rfl (lv_at hl 1 rfl) ?_
  obtain ⟨a4, e3, h⟩ := mx_b h
  obtain ⟨q1, e2, h⟩ := mx_b h
  have e5 := mx_c_eq e3
  refine W.eq (g2 := F0 m 2 ls [.int v1, .ref a4]) (congrArg (fun z => F0 m 2 ls [.int v1, va_rf z]) e5) ?_
  refine gq_go (va_runV (b := a4) (As := [.int v1]) (rest := []) ⟨hx, hb, hml, hown, hts⟩ (c_LR_findLine l G a4 v1 _ _ e2) (cwV 1 hts (gq_gV wd_123 wd_124 wd_125 wd_38 wd_122) rfl rfl rfl (by decide +kernel) ⟨Nat.le_trans (Nat.le_of_ble_eq_true rfl) hRf, Nat.le_trans (Nat.le_of_ble_eq_true rfl) hRl⟩) (gq_preV hK hN hM hS hb0 e3 (C := R_LR) (T := T_LR) (N := 5) rfl) rfl rfl hl.1 rfl (lv_room (Nat.le_of_ble_eq_true rfl)) d_LR_waits_2 ⟨Nat.le_trans (Nat.le_of_ble_eq_true rfl) hRc, Nat.le_trans (Nat.le_of_ble_eq_true rfl) hRs⟩) hS (fun H locs hM hS => ?_)
  refine W.eq (g2 := F0 m 5 ls [va_rf q1.1]) rfl ?_
  refine mx_astore (lv' := [(4, va_rf q1.1), (0, va_rf (some a0)), (1, .int v1), (2, .long v2)]) hx hb d_LR_waits_5 hl (by decide) rfl (fun ls hl => ?_)
  refine mx_aload hx hb d_LR_waits_7 (lv_at hl 0 rfl) ?_
  refine mx_ifnonnull (tgt := 15) hx hb d_LR_waits_9 (by decide) (fun c6 => ?_) (fun c6 => ?_)
  · rw [if_neg c6] at h
    refine lv_lload_n hx hb d_LR_waits_15 rfl (lv_at hl 3 rfl) ?_
    refine lv_lconst (v := 0) hx hb d_LR_waits_16 (by decide) ?_
    refine lv_ldc2 (v := 600) hx hb hown (hts _ wd_181) d_LR_waits_17 ?_
    obtain ⟨q7, e8, h⟩ := mx_b h
    refine gq_go (va_runS (As := [.long v2, .long 0, .long 600]) (rest := []) ⟨hx, hb, hml, hown, hts⟩ (c_LR_isWithin l G v2 0 600 _ _ e8) (cwS 3 hts (gq_gS wd_36 wd_37 wd_38 wd_35) rfl rfl rfl (by decide +kernel) ⟨Nat.le_trans (Nat.le_of_ble_eq_true rfl) hRf, Nat.le_trans (Nat.le_of_ble_eq_true rfl) hRl⟩) (gq_preS hK hN hM hS hb0) rfl rfl hl.1 rfl (lv_room (Nat.le_of_ble_eq_true rfl)) d_LR_waits_20 ⟨Nat.le_trans (Nat.le_of_ble_eq_true rfl) hRc, Nat.le_trans (Nat.le_of_ble_eq_true rfl) hRs⟩) hS (fun H locs hM hS => ?_)
    refine W.eq (g2 := F0 m 23 ls [.int q7.1]) rfl ?_
    refine lv_if_ne (tgt := 29) hx hb d_LR_waits_23 (by decide) (fun c10 => ?_) (fun c10 => ?_)
    · rw [if_neg c10] at h
      refine mx_aload hx hb d_LR_waits_29 (lv_at hl 0 rfl) ?_
      obtain ⟨x11, e12, h⟩ := mx_b h
      refine mx_getlN hx hb hts i_Li hown hK hM e12 (ci := 1) (C := R_Li) (T := T_Li) (N := 8) rfl 6 (by decide) (va_Nw.use rfl (hN _ nw_11)) d_LR_waits_31 ?_
      refine lv_l2i hx hb d_LR_waits_34 rfl ?_
      refine lv_istore (lv' := [(5, .int x11.toInt32), (4, va_rf q1.1), (0, va_rf (some a0)), (1, .int v1), (2, .long v2)]) hx hb d_LR_waits_35 hl (by decide) (by simp [mx_cat, mx_cati, mx_catl, mx_catr]) (fun ls hl => ?_)
      refine mx_aload hx hb d_LR_waits_37 (lv_at hl 1 rfl) ?_
      refine lv_lload_n hx hb d_LR_waits_39 rfl (lv_at hl 4 rfl) ?_
      obtain ⟨m13, e14, h⟩ := mx_b h
      refine mx_putN hx hb hts i_Li t_Li t_Li_ok n_Li hown hK hM hS e14 (ci := 1) (C := R_Li) (T := T_Li) (N := 8) rfl 6 (by decide) (va_Nw.use rfl (hN _ nw_11)) rfl (ty := .long) (by decide +kernel) rfl rfl d_LR_waits_40 (fun H locs hM hS => ?_)
      refine mx_aload_n hx hb d_LR_waits_43 rfl (lv_at hl 2 rfl) ?_
      obtain ⟨a18, e17, h⟩ := mx_b h
      obtain ⟨q15, e16, h⟩ := mx_b h
      have e19 := mx_c_eq e17
      refine W.eq (g2 := F0 m 44 ls [.ref a18]) (congrArg (fun z => F0 m 44 ls [va_rf z]) e19) ?_
      refine gq_go (va_runV (b := a18) (As := []) (rest := []) ⟨hx, hb, hml, hown, hts⟩ (c_LR_settle l G a18  _ _ e16) (cwV 0 hts (gq_gV wd_106 wd_107 wd_108 wd_38 wd_105) rfl rfl rfl (by decide +kernel) ⟨Nat.le_trans (Nat.le_of_ble_eq_true rfl) hRf, Nat.le_trans (Nat.le_of_ble_eq_true rfl) hRl⟩) (gq_preV hK hN hM hS hb0 e17 (C := R_LR) (T := T_LR) (N := 5) rfl) rfl rfl hl.1 rfl (lv_room (Nat.le_of_ble_eq_true rfl)) d_LR_waits_44 ⟨Nat.le_trans (Nat.le_of_ble_eq_true rfl) hRc, Nat.le_trans (Nat.le_of_ble_eq_true rfl) hRs⟩) hS (fun H locs hM hS => ?_)
      refine W.eq (g2 := F0 m 47 ls []) rfl ?_
      refine lv_iload hx hb d_LR_waits_47 (lv_at hl 0 rfl) ?_
      cases h
      exact W.iret hx hb hr (fun t ht hW => ⟨⟨rfl, by rw [ht]; exact hM⟩, hS.F ht⟩) hS.2.2 d_LR_waits_49
    · rw [if_pos c10] at h
      refine lv_bipush (v := (-12)) hx hb d_LR_waits_26 (by decide) ?_
      cases h
      exact W.iret hx hb hr (fun t ht hW => ⟨⟨rfl, by rw [ht]; exact hM⟩, hS.F ht⟩) hS.2.2 d_LR_waits_28
  · rw [if_pos c6] at h
    refine lv_bipush (v := (-11)) hx hb d_LR_waits_12 (by decide) ?_
    cases h
    exact W.iret hx hb hr (fun t ht hW => ⟨⟨rfl, by rw [ht]; exact hM⟩, hS.F ht⟩) hS.2.2 d_LR_waits_14
set_option maxHeartbeats 4000000 in
set_option maxRecDepth 100000 in
theorem c_Mo_waits (l : Launch) (G : mx_G) (a0 : Nat) (v1 : Int32) (v2 : Int64) (mem : mx_Mem) (q : Int32 × mx_Mem) (h : f_Mo_waits a0 v1 v2 mem = some q) : Met l y_Mo_waits (gq_w y_Mo_waits b_Mo_waits 5 (some .int)) { frames := 1, cells := 0, slots := 0, locals := 25 } (gq_P G [.ref a0, .int v1, .long v2] mem) (gq_Q G (some (.int q.1)) q.2) 0 0 (mx_A G) := by
  refine Met.ofW (cc := b_Mo_waits) (maxL := 5) (ret := (some .int)) (by decide) rfl ?_
  intro p e s m args below meth c s₁ B hml hv
  obtain ⟨rfl, hb0, hM, hK, hN⟩ := hv
  have CX : gq_C p (headSpec (gq_w y_Mo_waits b_Mo_waits 5 (some .int)) { frames := 1, cells := 0, slots := 0, locals := 25 }).room s m _ meth c G b_Mo_waits 5 (some .int) R_Mo 1 0 0 25 := ⟨B.exec, B.bytes, hml, B.returns, findClass_of_methodNamed B.named, fun w hw => atoms_spec (ws := gq_w y_Mo_waits b_Mo_waits 5 (some .int)) B.pre w (List.mem_cons_of_mem _ hw), B.notSynchronized, hK, hN, hb0, Nat.le_refl _, Nat.le_refl _, Nat.le_refl _, Nat.le_refl _⟩
  obtain ⟨hx, hb, hml, hr, hown, hts, hlocks, hK, hN, hb0, hRf, hRc, hRs, hRl⟩ := id CX
  have hS : va_S (mx_A G) s.heap s.heap [] := va_S.rf
  have hl := lv_entry [.ref a0, .int v1, .long v2] (n := 5) (Nat.le_of_ble_eq_true rfl)
  rw [lg_entry_eq]
  generalize (lg_sl [.ref a0, .int v1, .long v2] ++ List.replicate (5 - (lg_sl [.ref a0, .int v1, .long v2]).length) Slot.unset).toArray = ls at hl ⊢
  have hl : lv_has ls 5 [(0, va_rf (some a0)), (1, .int v1), (2, .long v2)] := hl
  unfold f_Mo_waits at h
  refine mx_aload_n hx hb d_Mo_waits_0 rfl (lv_at hl 0 rfl) ?_
  refine lv_iconst (v := 0) hx hb d_Mo_waits_1 (by decide) ?_
  obtain ⟨m1, e2, h⟩ := mx_b h
  refine mx_put hx hb hts i_Mo t_Mo t_Mo_ok n_Mo hown hK hM hS e2 (ci := 4) (C := R_Mo) (T := T_Mo) (N := 23) rfl 0 (by decide) (hts _ wd_109) rfl (ty := .int) (by decide +kernel) rfl rfl d_Mo_waits_2 (fun H locs hM hS => ?_)
  refine mx_aload_n hx hb d_Mo_waits_5 rfl (lv_at hl 0 rfl) ?_
  refine lv_iload_n hx hb d_Mo_waits_6 rfl (lv_at hl 1 rfl) ?_
  obtain ⟨a6, e5, h⟩ := mx_b h
  obtain ⟨q3, e4, h⟩ := mx_b h
  have e7 := mx_c_eq e5
  refine W.eq (g2 := F0 m 7 ls [.int v1, .ref a6]) (congrArg (fun z => F0 m 7 ls [.int v1, va_rf z]) e7) ?_
  refine gq_go (va_runV (b := a6) (As := [.int v1]) (rest := []) ⟨hx, hb, hml, hown, hts⟩ (c_Mo_isLine l G a6 v1 _ _ e4) (cwV 1 hts (gq_gV wd_137 wd_138 wd_139 wd_114 wd_136) rfl rfl rfl (by decide +kernel) ⟨Nat.le_trans (Nat.le_of_ble_eq_true rfl) hRf, Nat.le_trans (Nat.le_of_ble_eq_true rfl) hRl⟩) (gq_preV hK hN hM hS hb0 e5 (C := R_Mo) (T := T_Mo) (N := 23) rfl) rfl rfl hl.1 rfl (lv_room (Nat.le_of_ble_eq_true rfl)) d_Mo_waits_7 ⟨Nat.le_trans (Nat.le_of_ble_eq_true rfl) hRc, Nat.le_trans (Nat.le_of_ble_eq_true rfl) hRs⟩) hS (fun H locs hM hS => ?_)
  refine W.eq (g2 := F0 m 10 ls [.int q3.1]) rfl ?_
  refine lv_if_ne (tgt := 16) hx hb d_Mo_waits_10 (by decide) (fun c8 => ?_) (fun c8 => ?_)
  · rw [if_neg c8] at h
    refine lv_lload_n hx hb d_Mo_waits_16 rfl (lv_at hl 2 rfl) ?_
    refine lv_lconst (v := 0) hx hb d_Mo_waits_17 (by decide) ?_
    refine lv_ldc2 (v := 600) hx hb hown (hts _ wd_182) d_Mo_waits_18 ?_
    obtain ⟨q9, e10, h⟩ := mx_b h
    refine gq_go (va_runS (As := [.long v2, .long 0, .long 600]) (rest := []) ⟨hx, hb, hml, hown, hts⟩ (c_Mo_in l G v2 0 600 _ _ e10) (cwS 3 hts (gq_gS wd_112 wd_113 wd_114 wd_111) rfl rfl rfl (by decide +kernel) ⟨Nat.le_trans (Nat.le_of_ble_eq_true rfl) hRf, Nat.le_trans (Nat.le_of_ble_eq_true rfl) hRl⟩) (gq_preS hK hN hM hS hb0) rfl rfl hl.1 rfl (lv_room (Nat.le_of_ble_eq_true rfl)) d_Mo_waits_21 ⟨Nat.le_trans (Nat.le_of_ble_eq_true rfl) hRc, Nat.le_trans (Nat.le_of_ble_eq_true rfl) hRs⟩) hS (fun H locs hM hS => ?_)
    refine W.eq (g2 := F0 m 24 ls [.int q9.1]) rfl ?_
    refine lv_if_ne (tgt := 30) hx hb d_Mo_waits_24 (by decide) (fun c12 => ?_) (fun c12 => ?_)
    · rw [if_neg c12] at h
      refine mx_aload_n hx hb d_Mo_waits_30 rfl (lv_at hl 0 rfl) ?_
      obtain ⟨x13, e14, h⟩ := mx_b h
      refine mx_getr hx hb hts i_Mo hown hK hM e14 (ci := 4) (C := R_Mo) (T := T_Mo) (N := 23) rfl 7 (by decide) (hts _ wd_18) d_Mo_waits_31 ?_
      refine lv_iload_n hx hb d_Mo_waits_34 rfl (lv_at hl 1 rfl) ?_
      obtain ⟨x15, e16, h⟩ := mx_b h
      refine mx_lald hx hb hK hM e16 rfl d_Mo_waits_35 ?_
      refine lv_l2i hx hb d_Mo_waits_36 rfl ?_
      refine lv_istore (lv' := [(4, .int x15.toInt32), (0, va_rf (some a0)), (1, .int v1), (2, .long v2)]) hx hb d_Mo_waits_37 hl (by decide) rfl (fun ls hl => ?_)
      refine mx_aload_n hx hb d_Mo_waits_39 rfl (lv_at hl 1 rfl) ?_
      obtain ⟨x17, e18, h⟩ := mx_b h
      refine mx_getr hx hb hts i_Mo hown hK hM e18 (ci := 4) (C := R_Mo) (T := T_Mo) (N := 23) rfl 7 (by decide) (hts _ wd_18) d_Mo_waits_40 ?_
      refine lv_iload_n hx hb d_Mo_waits_43 rfl (lv_at hl 2 rfl) ?_
      refine lv_lload_n hx hb d_Mo_waits_44 rfl (lv_at hl 3 rfl) ?_
      obtain ⟨m20, e19, h⟩ := mx_b h
      refine mx_last hx hb hK hM hS e19 rfl d_Mo_waits_45 (fun H locs hM hS => ?_)
      refine lv_iload hx hb d_Mo_waits_46 (lv_at hl 0 rfl) ?_
      cases h
      exact W.iret hx hb hr (fun t ht hW => ⟨⟨rfl, by rw [ht]; exact hM⟩, hS.F ht⟩) hS.2.2 d_Mo_waits_48
    · rw [if_pos c12] at h
      refine lv_bipush (v := (-12)) hx hb d_Mo_waits_27 (by decide) ?_
      cases h
      exact W.iret hx hb hr (fun t ht hW => ⟨⟨rfl, by rw [ht]; exact hM⟩, hS.F ht⟩) hS.2.2 d_Mo_waits_29
  · rw [if_pos c8] at h
    refine lv_bipush (v := (-11)) hx hb d_Mo_waits_13 (by decide) ?_
    cases h
    exact W.iret hx hb hr (fun t ht hW => ⟨⟨rfl, by rw [ht]; exact hM⟩, hS.F ht⟩) hS.2.2 d_Mo_waits_15
set_option maxHeartbeats 4000000 in
set_option maxRecDepth 100000 in
theorem c_Lo_minutesBehind (l : Launch) (G : mx_G) (a0 : Nat) (mem : mx_Mem) (q : Int64 × mx_Mem) (h : f_Lo_minutesBehind a0 mem = some q) : Met l y_Lo_minutesBehind (gq_w y_Lo_minutesBehind b_Lo_minutesBehind 1 (some .long)) { frames := 1, cells := 0, slots := 0, locals := 15 } (gq_P G [.ref a0] mem) (gq_Q G (some (.long q.1)) q.2) 0 0 (mx_A G) := by
  refine Met.ofW (cc := b_Lo_minutesBehind) (maxL := 1) (ret := (some .long)) (by decide) rfl ?_
  intro p e s m args below meth c s₁ B hml hv
  obtain ⟨rfl, hb0, hM, hK, hN⟩ := hv
  have CX : gq_C p (headSpec (gq_w y_Lo_minutesBehind b_Lo_minutesBehind 1 (some .long)) { frames := 1, cells := 0, slots := 0, locals := 15 }).room s m _ meth c G b_Lo_minutesBehind 1 (some .long) R_Lo 1 0 0 15 := ⟨B.exec, B.bytes, hml, B.returns, findClass_of_methodNamed B.named, fun w hw => atoms_spec (ws := gq_w y_Lo_minutesBehind b_Lo_minutesBehind 1 (some .long)) B.pre w (List.mem_cons_of_mem _ hw), B.notSynchronized, hK, hN, hb0, Nat.le_refl _, Nat.le_refl _, Nat.le_refl _, Nat.le_refl _⟩
  obtain ⟨hx, hb, hml, hr, hown, hts, hlocks, hK, hN, hb0, hRf, hRc, hRs, hRl⟩ := id CX
  have hS : va_S (mx_A G) s.heap s.heap [] := va_S.rf
  have hl := lv_entry [.ref a0] (n := 1) (Nat.le_of_ble_eq_true rfl)
  rw [lg_entry_eq]
  generalize (lg_sl [.ref a0] ++ List.replicate (1 - (lg_sl [.ref a0]).length) Slot.unset).toArray = ls at hl ⊢
  have hl : lv_has ls 1 [(0, va_rf (some a0))] := hl
  unfold f_Lo_minutesBehind at h
  refine lv_lconst (v := 0) hx hb d_Lo_minutesBehind_0 (by decide) ?_
  refine mx_aload_n hx hb d_Lo_minutesBehind_1 rfl (lv_at hl 0 rfl) ?_
  obtain ⟨x1, e2, h⟩ := mx_b h
  refine mx_getl hx hb hts i_Lo hown hK hM e2 (ci := 3) (C := R_Lo) (T := T_Lo) (N := 12) rfl 9 (by decide) (hts _ wd_79) d_Lo_minutesBehind_2 ?_
  refine mx_aload_n hx hb d_Lo_minutesBehind_5 rfl (lv_at hl 0 rfl) ?_
  obtain ⟨x3, e4, h⟩ := mx_b h
  refine mx_getl hx hb hts i_Lo hown hK hM e4 (ci := 3) (C := R_Lo) (T := T_Lo) (N := 12) rfl 2 (by decide) (hts _ wd_119) d_Lo_minutesBehind_6 ?_
  refine lv_lsub hx hb d_Lo_minutesBehind_9 ?_
  refine va_mmax_long hx hb (by rw [hml]; exact hl.1.symm) hown (hts _ wd_183) (hts _ wd_52) (hts _ wd_53) (hts _ wd_54) (Nat.le_trans (Nat.le_of_ble_eq_true rfl) hRf) (Nat.le_trans (Nat.le_of_ble_eq_true rfl) hRl) (Nat.le_trans (Nat.le_of_ble_eq_true rfl) hRc) (Nat.le_trans (Nat.le_of_ble_eq_true rfl) hRs) d_Lo_minutesBehind_10 ?_
  cases h
  exact W.lret hx hb hr (fun t ht hW => ⟨⟨rfl, by rw [ht]; exact hM⟩, hS.F ht⟩) hS.2.2 d_Lo_minutesBehind_13
end
section
set_option maxHeartbeats 4000000 in
set_option maxRecDepth 100000 in
theorem wfl_LR_countFailing_4 {p : Program} {l : Launch} {e : Env} {R : Room} {s : State} {m : MethodId} {args : Array Value} {below : List Frame} {meth : Method} {c : Code} {G : mx_G} (q : Int32 × mx_Mem) (CX : gq_C p R s m args meth c G b_LR_countFailing 3 (some .int) R_LR 2 0 0 35)  : ∀ (n : Nat) (v0 : Option Nat) (v1 : Int32) (v2 : Int32) (mem : mx_Mem), fl_LR_countFailing_4  n v0 v1 v2 mem = some q → ∀ (H : Heap) (locs : List Loc) (ls : Array Slot), lv_has ls 3 [(0, va_rf v0), (1, .int v1), (2, .int v2)] → mx_M vwCl G mem H → va_S (mx_A G) s.heap H locs → W p l e R s m args below meth c H locs 0 0 (MQ below (gq_Q G (some (.int q.1)) q.2) args s 0 0 (mx_A G)) (F0 m 4 ls []) := by
  obtain ⟨hx, hb, hml, hr, hown, hts, hlocks, hK, hN, hb0, hRf, hRc, hRs, hRl⟩ := id CX
  intro n
  induction n with
  | zero => intro v0 v1 v2 mem h; rw [fl_LR_countFailing_4] at h; cases h
  | succ n ih =>
    intro v0 v1 v2 mem h H locs ls hl hM hS
    rw [fl_LR_countFailing_4] at h
    refine lv_iload_n hx hb d_LR_countFailing_4 rfl (lv_at hl 2 rfl) ?_
    refine mx_aload_n hx hb d_LR_countFailing_5 rfl (lv_at hl 0 rfl) ?_
    obtain ⟨x1, e2, h⟩ := mx_b h
    refine mx_geti hx hb hts i_LR hown hK hM e2 (ci := 0) (C := R_LR) (T := T_LR) (N := 5) rfl 4 (by decide) (hts _ wd_9) d_LR_countFailing_6 ?_
    refine lv_icmp_ge (tgt := 47) hx hb d_LR_countFailing_9 (by decide) (fun c3 => ?_) (fun c3 => ?_)
    · rw [if_pos c3] at h
      refine lv_iload_n hx hb d_LR_countFailing_47 rfl (lv_at hl 1 rfl) ?_
      cases h
      exact W.iret hx hb hr (fun t ht hW => ⟨⟨rfl, by rw [ht]; exact hM⟩, hS.F ht⟩) hS.2.2 d_LR_countFailing_48
    · rw [if_neg c3] at h
      refine mx_aload_n hx hb d_LR_countFailing_12 rfl (lv_at hl 0 rfl) ?_
      obtain ⟨x4, e5, h⟩ := mx_b h
      refine mx_getr hx hb hts i_LR hown hK hM e5 (ci := 0) (C := R_LR) (T := T_LR) (N := 5) rfl 2 (by decide) (hts _ wd_6) d_LR_countFailing_13 ?_
      refine lv_iload_n hx hb d_LR_countFailing_16 rfl (lv_at hl 2 rfl) ?_
      obtain ⟨x6, e7, h⟩ := mx_b h
      refine mx_aald hx hb hK hM e7 rfl d_LR_countFailing_17 ?_
      obtain ⟨x8, e9, h⟩ := mx_b h
      refine mx_getiN hx hb hts i_Lo hown hK hM e9 (ci := 3) (C := R_Lo) (T := T_Lo) (N := 12) rfl 11 (by decide) (va_Nw.use rfl (hN _ nw_12)) d_LR_countFailing_18 ?_
      refine lv_if_ne (tgt := 38) hx hb d_LR_countFailing_21 (by decide) (fun c10 => ?_) (fun c10 => ?_)
      · rw [if_neg c10] at h
        refine lv_iinc (v := (v1 + 1)) (lv' := [(1, .int ((v1 + 1))), (0, va_rf v0), (2, .int v2)]) hx hb d_LR_countFailing_38 hl (k := 1) rfl rfl (by decide) (by simp [mx_cat, mx_cati, mx_catl, mx_catr]) (fun ls hl => ?_)
        refine lv_iinc (v := (v2 + 1)) (lv' := [(2, .int ((v2 + 1))), (1, .int ((v1 + 1))), (0, va_rf v0)]) hx hb d_LR_countFailing_41 hl (k := 2) rfl rfl (by decide) rfl (fun ls hl => ?_)
        refine lv_goto (tgt := 4) hx hb d_LR_countFailing_44 (by decide) ?_
        exact ih _ _ _ _ h _ _ _ (lv_sub hl [2, 1, 0] rfl) hM hS
      · rw [if_pos c10] at h
        refine mx_aload_n hx hb d_LR_countFailing_24 rfl (lv_at hl 0 rfl) ?_
        obtain ⟨x11, e12, h⟩ := mx_b h
        refine mx_getr hx hb hts i_LR hown hK hM e12 (ci := 0) (C := R_LR) (T := T_LR) (N := 5) rfl 2 (by decide) (hts _ wd_6) d_LR_countFailing_25 ?_
        refine lv_iload_n hx hb d_LR_countFailing_28 rfl (lv_at hl 2 rfl) ?_
        obtain ⟨x13, e14, h⟩ := mx_b h
        refine mx_aald hx hb hK hM e14 rfl d_LR_countFailing_29 ?_
        obtain ⟨a18, e17, h⟩ := mx_b h
        obtain ⟨q15, e16, h⟩ := mx_b h
        have e19 := mx_c_eq e17
        refine W.eq (g2 := F0 m 30 ls [.ref a18]) (congrArg (fun z => F0 m 30 ls [va_rf z]) e19) ?_
        refine gq_go (va_runV (b := a18) (As := []) (rest := []) ⟨hx, hb, hml, hown, hts⟩ (c_Lo_minutesBehind l G a18  _ _ e16) (cwV 0 hts (gq_gV wd_185 wd_186 wd_187 wd_66 wd_184) rfl rfl rfl (by decide +kernel) ⟨Nat.le_trans (Nat.le_of_ble_eq_true rfl) hRf, Nat.le_trans (Nat.le_of_ble_eq_true rfl) hRl⟩) (gq_preV hK hN hM hS hb0 e17 (C := R_Lo) (T := T_Lo) (N := 12) rfl) rfl rfl hl.1 rfl (lv_room (Nat.le_of_ble_eq_true rfl)) d_LR_countFailing_30 ⟨Nat.le_trans (Nat.le_of_ble_eq_true rfl) hRc, Nat.le_trans (Nat.le_of_ble_eq_true rfl) hRs⟩) hS (fun H locs hM hS => ?_)
        refine W.eq (g2 := F0 m 33 ls [.long q15.1]) rfl ?_
        refine lv_lconst (v := 0) hx hb d_LR_countFailing_33 (by decide) ?_
        refine mx_lcmp_le (tgt := 41) hx hb d_LR_countFailing_34 d_LR_countFailing_35 (by decide) (fun c20 => ?_) (fun c20 => ?_)
        · rw [if_pos c20] at h
          refine lv_iinc (v := (v2 + 1)) (lv' := [(2, .int ((v2 + 1))), (0, va_rf v0), (1, .int v1)]) hx hb d_LR_countFailing_41 hl (k := 2) rfl rfl (by decide) rfl (fun ls hl => ?_)
          refine lv_goto (tgt := 4) hx hb d_LR_countFailing_44 (by decide) ?_
          exact ih _ _ _ _ h _ _ _ (lv_sub hl [1, 2, 0] rfl) hM hS
        · rw [if_neg c20] at h
          refine lv_iinc (v := (v1 + 1)) (lv' := [(1, .int ((v1 + 1))), (0, va_rf v0), (2, .int v2)]) hx hb d_LR_countFailing_38 hl (k := 1) rfl rfl (by decide) (by simp [mx_cat, mx_cati, mx_catl, mx_catr]) (fun ls hl => ?_)
          refine lv_iinc (v := (v2 + 1)) (lv' := [(2, .int ((v2 + 1))), (1, .int ((v1 + 1))), (0, va_rf v0)]) hx hb d_LR_countFailing_41 hl (k := 2) rfl rfl (by decide) rfl (fun ls hl => ?_)
          refine lv_goto (tgt := 4) hx hb d_LR_countFailing_44 (by decide) ?_
          exact ih _ _ _ _ h _ _ _ (lv_sub hl [2, 1, 0] rfl) hM hS
set_option maxHeartbeats 4000000 in
set_option maxRecDepth 100000 in
theorem c_LR_countFailing (l : Launch) (G : mx_G) (a0 : Nat) (mem : mx_Mem) (q : Int32 × mx_Mem) (h : f_LR_countFailing a0 mem = some q) : Met l y_LR_countFailing (gq_w y_LR_countFailing b_LR_countFailing 3 (some .int)) { frames := 2, cells := 0, slots := 0, locals := 35 } (gq_P G [.ref a0] mem) (gq_Q G (some (.int q.1)) q.2) 0 0 (mx_A G) := by
  refine Met.ofW (cc := b_LR_countFailing) (maxL := 3) (ret := (some .int)) (by decide) rfl ?_
  intro p e s m args below meth c s₁ B hml hv
  obtain ⟨rfl, hb0, hM, hK, hN⟩ := hv
  have CX : gq_C p (headSpec (gq_w y_LR_countFailing b_LR_countFailing 3 (some .int)) { frames := 2, cells := 0, slots := 0, locals := 35 }).room s m _ meth c G b_LR_countFailing 3 (some .int) R_LR 2 0 0 35 := ⟨B.exec, B.bytes, hml, B.returns, findClass_of_methodNamed B.named, fun w hw => atoms_spec (ws := gq_w y_LR_countFailing b_LR_countFailing 3 (some .int)) B.pre w (List.mem_cons_of_mem _ hw), B.notSynchronized, hK, hN, hb0, Nat.le_refl _, Nat.le_refl _, Nat.le_refl _, Nat.le_refl _⟩
  obtain ⟨hx, hb, hml, hr, hown, hts, hlocks, hK, hN, hb0, hRf, hRc, hRs, hRl⟩ := id CX
  have hS : va_S (mx_A G) s.heap s.heap [] := va_S.rf
  have hl := lv_entry [.ref a0] (n := 3) (Nat.le_of_ble_eq_true rfl)
  rw [lg_entry_eq]
  generalize (lg_sl [.ref a0] ++ List.replicate (3 - (lg_sl [.ref a0]).length) Slot.unset).toArray = ls at hl ⊢
  have hl : lv_has ls 3 [(0, va_rf (some a0))] := hl
  unfold f_LR_countFailing at h
  refine lv_iconst (v := 0) hx hb d_LR_countFailing_0 (by decide) ?_
  refine lv_istore_n (lv' := [(1, .int 0), (0, va_rf (some a0))]) hx hb d_LR_countFailing_1 rfl hl (by decide) (by simp [mx_cat, mx_cati, mx_catl, mx_catr]) (fun ls hl => ?_)
  refine lv_iconst (v := 0) hx hb d_LR_countFailing_2 (by decide) ?_
  refine lv_istore_n (lv' := [(2, .int 0), (1, .int 0), (0, va_rf (some a0))]) hx hb d_LR_countFailing_3 rfl hl (by decide) rfl (fun ls hl => ?_)
  refine wfl_LR_countFailing_4 q CX  5000 _ _ _ _ h _ _ _ (lv_sub hl [2, 1, 0] rfl) hM hS
set_option maxHeartbeats 4000000 in
set_option maxRecDepth 100000 in
theorem c_LR_late (l : Launch) (G : mx_G) (a0 : Nat) (v1 : Int32) (v2 : Int64) (mem : mx_Mem) (q : Int32 × mx_Mem) (h : f_LR_late a0 v1 v2 mem = some q) : Met l y_LR_late (gq_w y_LR_late b_LR_late 5 (some .int)) { frames := 4, cells := 0, slots := 0, locals := 80 } (gq_P G [.ref a0, .int v1, .long v2] mem) (gq_Q G (some (.int q.1)) q.2) 0 0 (mx_A G) := by
  refine Met.ofW (cc := b_LR_late) (maxL := 5) (ret := (some .int)) (by decide) rfl ?_
  intro p e s m args below meth c s₁ B hml hv
  obtain ⟨rfl, hb0, hM, hK, hN⟩ := hv
  have CX : gq_C p (headSpec (gq_w y_LR_late b_LR_late 5 (some .int)) { frames := 4, cells := 0, slots := 0, locals := 80 }).room s m _ meth c G b_LR_late 5 (some .int) R_LR 4 0 0 80 := ⟨B.exec, B.bytes, hml, B.returns, findClass_of_methodNamed B.named, fun w hw => atoms_spec (ws := gq_w y_LR_late b_LR_late 5 (some .int)) B.pre w (List.mem_cons_of_mem _ hw), B.notSynchronized, hK, hN, hb0, Nat.le_refl _, Nat.le_refl _, Nat.le_refl _, Nat.le_refl _⟩
  obtain ⟨hx, hb, hml, hr, hown, hts, hlocks, hK, hN, hb0, hRf, hRc, hRs, hRl⟩ := id CX
  have hS : va_S (mx_A G) s.heap s.heap [] := va_S.rf
  have hl := lv_entry [.ref a0, .int v1, .long v2] (n := 5) (Nat.le_of_ble_eq_true rfl)
  rw [lg_entry_eq]
  generalize (lg_sl [.ref a0, .int v1, .long v2] ++ List.replicate (5 - (lg_sl [.ref a0, .int v1, .long v2]).length) Slot.unset).toArray = ls at hl ⊢
  have hl : lv_has ls 5 [(0, va_rf (some a0)), (1, .int v1), (2, .long v2)] := hl
  unfold f_LR_late at h
  refine mx_aload_n hx hb d_LR_late_0 rfl (lv_at hl 0 rfl) ?_
  refine lv_iload_n hx hb d_LR_late_1 rfl (lv_at hl 1 rfl) ?_
  obtain ⟨a4, e3, h⟩ := mx_b h
  obtain ⟨q1, e2, h⟩ := mx_b h
  have e5 := mx_c_eq e3
  refine W.eq (g2 := F0 m 2 ls [.int v1, .ref a4]) (congrArg (fun z => F0 m 2 ls [.int v1, va_rf z]) e5) ?_
  refine gq_go (va_runV (b := a4) (As := [.int v1]) (rest := []) ⟨hx, hb, hml, hown, hts⟩ (c_LR_findLine l G a4 v1 _ _ e2) (cwV 1 hts (gq_gV wd_123 wd_124 wd_125 wd_38 wd_122) rfl rfl rfl (by decide +kernel) ⟨Nat.le_trans (Nat.le_of_ble_eq_true rfl) hRf, Nat.le_trans (Nat.le_of_ble_eq_true rfl) hRl⟩) (gq_preV hK hN hM hS hb0 e3 (C := R_LR) (T := T_LR) (N := 5) rfl) rfl rfl hl.1 rfl (lv_room (Nat.le_of_ble_eq_true rfl)) d_LR_late_2 ⟨Nat.le_trans (Nat.le_of_ble_eq_true rfl) hRc, Nat.le_trans (Nat.le_of_ble_eq_true rfl) hRs⟩) hS (fun H locs hM hS => ?_)
  refine W.eq (g2 := F0 m 5 ls [va_rf q1.1]) rfl ?_
  refine mx_astore (lv' := [(4, va_rf q1.1), (0, va_rf (some a0)), (1, .int v1), (2, .long v2)]) hx hb d_LR_late_5 hl (by decide) rfl (fun ls hl => ?_)
  refine mx_aload hx hb d_LR_late_7 (lv_at hl 0 rfl) ?_
  refine mx_ifnonnull (tgt := 15) hx hb d_LR_late_9 (by decide) (fun c6 => ?_) (fun c6 => ?_)
  · rw [if_neg c6] at h
    refine lv_lload_n hx hb d_LR_late_15 rfl (lv_at hl 3 rfl) ?_
    refine lv_lconst (v := 0) hx hb d_LR_late_16 (by decide) ?_
    refine lv_ldc2 (v := 2000) hx hb hown (hts _ wd_188) d_LR_late_17 ?_
    obtain ⟨q7, e8, h⟩ := mx_b h
    refine gq_go (va_runS (As := [.long v2, .long 0, .long 2000]) (rest := []) ⟨hx, hb, hml, hown, hts⟩ (c_LR_isWithin l G v2 0 2000 _ _ e8) (cwS 3 hts (gq_gS wd_36 wd_37 wd_38 wd_35) rfl rfl rfl (by decide +kernel) ⟨Nat.le_trans (Nat.le_of_ble_eq_true rfl) hRf, Nat.le_trans (Nat.le_of_ble_eq_true rfl) hRl⟩) (gq_preS hK hN hM hS hb0) rfl rfl hl.1 rfl (lv_room (Nat.le_of_ble_eq_true rfl)) d_LR_late_20 ⟨Nat.le_trans (Nat.le_of_ble_eq_true rfl) hRc, Nat.le_trans (Nat.le_of_ble_eq_true rfl) hRs⟩) hS (fun H locs hM hS => ?_)
    refine W.eq (g2 := F0 m 23 ls [.int q7.1]) rfl ?_
    refine lv_if_ne (tgt := 29) hx hb d_LR_late_23 (by decide) (fun c10 => ?_) (fun c10 => ?_)
    · rw [if_neg c10] at h
      refine mx_aload hx hb d_LR_late_29 (lv_at hl 0 rfl) ?_
      refine lv_lload_n hx hb d_LR_late_31 rfl (lv_at hl 3 rfl) ?_
      obtain ⟨m11, e12, h⟩ := mx_b h
      refine mx_putN hx hb hts i_Li t_Li t_Li_ok n_Li hown hK hM hS e12 (ci := 1) (C := R_Li) (T := T_Li) (N := 8) rfl 5 (by decide) (va_Nw.use rfl (hN _ nw_13)) rfl (ty := .long) (by decide +kernel) rfl rfl d_LR_late_32 (fun H locs hM hS => ?_)
      refine mx_aload_n hx hb d_LR_late_35 rfl (lv_at hl 1 rfl) ?_
      obtain ⟨a16, e15, h⟩ := mx_b h
      obtain ⟨q13, e14, h⟩ := mx_b h
      have e17 := mx_c_eq e15
      refine W.eq (g2 := F0 m 36 ls [.ref a16]) (congrArg (fun z => F0 m 36 ls [va_rf z]) e17) ?_
      refine gq_go (va_runV (b := a16) (As := []) (rest := []) ⟨hx, hb, hml, hown, hts⟩ (c_LR_settle l G a16  _ _ e14) (cwV 0 hts (gq_gV wd_106 wd_107 wd_108 wd_38 wd_105) rfl rfl rfl (by decide +kernel) ⟨Nat.le_trans (Nat.le_of_ble_eq_true rfl) hRf, Nat.le_trans (Nat.le_of_ble_eq_true rfl) hRl⟩) (gq_preV hK hN hM hS hb0 e15 (C := R_LR) (T := T_LR) (N := 5) rfl) rfl rfl hl.1 rfl (lv_room (Nat.le_of_ble_eq_true rfl)) d_LR_late_36 ⟨Nat.le_trans (Nat.le_of_ble_eq_true rfl) hRc, Nat.le_trans (Nat.le_of_ble_eq_true rfl) hRs⟩) hS (fun H locs hM hS => ?_)
      refine W.eq (g2 := F0 m 39 ls []) rfl ?_
      refine mx_aload_n hx hb d_LR_late_39 rfl (lv_at hl 1 rfl) ?_
      obtain ⟨a21, e20, h⟩ := mx_b h
      obtain ⟨q18, e19, h⟩ := mx_b h
      have e22 := mx_c_eq e20
      refine W.eq (g2 := F0 m 40 ls [.ref a21]) (congrArg (fun z => F0 m 40 ls [va_rf z]) e22) ?_
      refine gq_go (va_runV (b := a21) (As := []) (rest := []) ⟨hx, hb, hml, hown, hts⟩ (c_LR_countFailing l G a21  _ _ e19) (cwV 0 hts (gq_gV wd_190 wd_191 wd_192 wd_38 wd_189) rfl rfl rfl (by decide +kernel) ⟨Nat.le_trans (Nat.le_of_ble_eq_true rfl) hRf, Nat.le_trans (Nat.le_of_ble_eq_true rfl) hRl⟩) (gq_preV hK hN hM hS hb0 e20 (C := R_LR) (T := T_LR) (N := 5) rfl) rfl rfl hl.1 rfl (lv_room (Nat.le_of_ble_eq_true rfl)) d_LR_late_40 ⟨Nat.le_trans (Nat.le_of_ble_eq_true rfl) hRc, Nat.le_trans (Nat.le_of_ble_eq_true rfl) hRs⟩) hS (fun H locs hM hS => ?_)
      refine W.eq (g2 := F0 m 43 ls [.int q18.1]) rfl ?_
      cases h
      exact W.iret hx hb hr (fun t ht hW => ⟨⟨rfl, by rw [ht]; exact hM⟩, hS.F ht⟩) hS.2.2 d_LR_late_43
    · rw [if_pos c10] at h
      refine lv_bipush (v := (-12)) hx hb d_LR_late_26 (by decide) ?_
      cases h
      exact W.iret hx hb hr (fun t ht hW => ⟨⟨rfl, by rw [ht]; exact hM⟩, hS.F ht⟩) hS.2.2 d_LR_late_28
  · rw [if_pos c6] at h
    refine lv_bipush (v := (-11)) hx hb d_LR_late_12 (by decide) ?_
    cases h
    exact W.iret hx hb hr (fun t ht hW => ⟨⟨rfl, by rw [ht]; exact hM⟩, hS.F ht⟩) hS.2.2 d_LR_late_14
set_option maxHeartbeats 4000000 in
set_option maxRecDepth 100000 in
theorem c_Mo_there (l : Launch) (G : mx_G) (a0 : Nat) (v1 : Int32) (mem : mx_Mem) (q : Int64 × mx_Mem) (h : f_Mo_there a0 v1 mem = some q) : Met l y_Mo_there (gq_w y_Mo_there b_Mo_there 2 (some .long)) { frames := 0, cells := 0, slots := 0, locals := 0 } (gq_P G [.ref a0, .int v1] mem) (gq_Q G (some (.long q.1)) q.2) 0 0 (mx_A G) := by
  refine Met.ofW (cc := b_Mo_there) (maxL := 2) (ret := (some .long)) (by decide) rfl ?_
  intro p e s m args below meth c s₁ B hml hv
  obtain ⟨rfl, hb0, hM, hK, hN⟩ := hv
  have CX : gq_C p (headSpec (gq_w y_Mo_there b_Mo_there 2 (some .long)) { frames := 0, cells := 0, slots := 0, locals := 0 }).room s m _ meth c G b_Mo_there 2 (some .long) R_Mo 0 0 0 0 := ⟨B.exec, B.bytes, hml, B.returns, findClass_of_methodNamed B.named, fun w hw => atoms_spec (ws := gq_w y_Mo_there b_Mo_there 2 (some .long)) B.pre w (List.mem_cons_of_mem _ hw), B.notSynchronized, hK, hN, hb0, Nat.le_refl _, Nat.le_refl _, Nat.le_refl _, Nat.le_refl _⟩
  obtain ⟨hx, hb, hml, hr, hown, hts, hlocks, hK, hN, hb0, hRf, hRc, hRs, hRl⟩ := id CX
  have hS : va_S (mx_A G) s.heap s.heap [] := va_S.rf
  have hl := lv_entry [.ref a0, .int v1] (n := 2) (Nat.le_of_ble_eq_true rfl)
  rw [lg_entry_eq]
  generalize (lg_sl [.ref a0, .int v1] ++ List.replicate (2 - (lg_sl [.ref a0, .int v1]).length) Slot.unset).toArray = ls at hl ⊢
  have hl : lv_has ls 2 [(0, va_rf (some a0)), (1, .int v1)] := hl
  unfold f_Mo_there at h
  refine mx_aload_n hx hb d_Mo_there_0 rfl (lv_at hl 0 rfl) ?_
  obtain ⟨x1, e2, h⟩ := mx_b h
  refine mx_getr hx hb hts i_Mo hown hK hM e2 (ci := 4) (C := R_Mo) (T := T_Mo) (N := 23) rfl 5 (by decide) (hts _ wd_16) d_Mo_there_1 ?_
  refine lv_iload_n hx hb d_Mo_there_4 rfl (lv_at hl 1 rfl) ?_
  obtain ⟨x3, e4, h⟩ := mx_b h
  refine mx_lald hx hb hK hM e4 rfl d_Mo_there_5 ?_
  refine mx_aload_n hx hb d_Mo_there_6 rfl (lv_at hl 0 rfl) ?_
  obtain ⟨x5, e6, h⟩ := mx_b h
  refine mx_getr hx hb hts i_Mo hown hK hM e6 (ci := 4) (C := R_Mo) (T := T_Mo) (N := 23) rfl 8 (by decide) (hts _ wd_19) d_Mo_there_7 ?_
  refine lv_iload_n hx hb d_Mo_there_10 rfl (lv_at hl 1 rfl) ?_
  obtain ⟨x7, e8, h⟩ := mx_b h
  refine mx_lald hx hb hK hM e8 rfl d_Mo_there_11 ?_
  refine lv_ladd hx hb d_Mo_there_12 ?_
  refine mx_aload_n hx hb d_Mo_there_13 rfl (lv_at hl 0 rfl) ?_
  obtain ⟨x9, e10, h⟩ := mx_b h
  refine mx_getr hx hb hts i_Mo hown hK hM e10 (ci := 4) (C := R_Mo) (T := T_Mo) (N := 23) rfl 4 (by decide) (hts _ wd_15) d_Mo_there_14 ?_
  refine lv_iload_n hx hb d_Mo_there_17 rfl (lv_at hl 1 rfl) ?_
  obtain ⟨x11, e12, h⟩ := mx_b h
  refine mx_lald hx hb hK hM e12 rfl d_Mo_there_18 ?_
  refine lv_lsub hx hb d_Mo_there_19 ?_
  cases h
  exact W.lret hx hb hr (fun t ht hW => ⟨⟨rfl, by rw [ht]; exact hM⟩, hS.F ht⟩) hS.2.2 d_Mo_there_20
set_option maxHeartbeats 4000000 in
set_option maxRecDepth 100000 in
theorem wfl_Mo_depart_24 {p : Program} {l : Launch} {e : Env} {R : Room} {s : State} {m : MethodId} {args : Array Value} {below : List Frame} {meth : Method} {c : Code} {G : mx_G} (q : mx_Mem) (CX : gq_C p R s m args meth c G b_Mo_depart 9 none R_Mo 1 0 0 21)  : ∀ (n : Nat) (v0 : Option Nat) (v1 : Int32) (v2 : Int64) (v4 : Int32) (mem : mx_Mem), fl_Mo_depart_24  n v0 v1 v2 v4 mem = some q → ∀ (H : Heap) (locs : List Loc) (ls : Array Slot), lv_has ls 9 [(0, va_rf v0), (1, .int v1), (2, .long v2), (4, .int v4)] → mx_M vwCl G mem H → va_S (mx_A G) s.heap H locs → W p l e R s m args below meth c H locs 0 0 (MQ below (gq_Q G none q) args s 0 0 (mx_A G)) (F0 m 24 ls []) := by
  obtain ⟨hx, hb, hml, hr, hown, hts, hlocks, hK, hN, hb0, hRf, hRc, hRs, hRl⟩ := id CX
  intro n
  induction n with
  | zero => intro v0 v1 v2 v4 mem h; rw [fl_Mo_depart_24] at h; cases h
  | succ n ih =>
    intro v0 v1 v2 v4 mem h H locs ls hl hM hS
    rw [fl_Mo_depart_24] at h
    refine lv_iload hx hb d_Mo_depart_24 (lv_at hl 3 rfl) ?_
    refine mx_aload_n hx hb d_Mo_depart_26 rfl (lv_at hl 0 rfl) ?_
    obtain ⟨x1, e2, h⟩ := mx_b h
    refine mx_geti hx hb hts i_Mo hown hK hM e2 (ci := 4) (C := R_Mo) (T := T_Mo) (N := 23) rfl 9 (by decide) (hts _ wd_142) d_Mo_depart_27 ?_
    refine lv_icmp_gt (tgt := 166) hx hb d_Mo_depart_30 (by decide) (fun c3 => ?_) (fun c3 => ?_)
    · rw [if_pos c3] at h
      cases h
      exact W.vret hx hb hr (fun t ht hW => ⟨⟨rfl, by rw [ht]; exact hM⟩, hS.F ht⟩) hS.2.2 d_Mo_depart_166
    · rw [if_neg c3] at h
      refine lv_iconst (v := 4) hx hb d_Mo_depart_33 (by decide) ?_
      refine lv_iload hx hb d_Mo_depart_34 (lv_at hl 3 rfl) ?_
      refine lv_imul hx hb d_Mo_depart_36 ?_
      refine mx_aload_n hx hb d_Mo_depart_37 rfl (lv_at hl 0 rfl) ?_
      obtain ⟨x4, e5, h⟩ := mx_b h
      refine mx_getr hx hb hts i_Mo hown hK hM e5 (ci := 4) (C := R_Mo) (T := T_Mo) (N := 23) rfl 15 (by decide) (hts _ wd_25) d_Mo_depart_38 ?_
      refine lv_iload hx hb d_Mo_depart_41 (lv_at hl 3 rfl) ?_
      obtain ⟨x6, e7, h⟩ := mx_b h
      refine mx_iald hx hb hK hM e7 rfl d_Mo_depart_43 ?_
      refine lv_iadd hx hb d_Mo_depart_44 ?_
      refine lv_istore (lv' := [(5, .int (((4 * v4) + x6))), (0, va_rf v0), (1, .int v1), (2, .long v2), (4, .int v4)]) hx hb d_Mo_depart_45 hl (by decide) rfl (fun ls hl => ?_)
      refine mx_aload_n hx hb d_Mo_depart_47 rfl (lv_at hl 1 rfl) ?_
      obtain ⟨x8, e9, h⟩ := mx_b h
      refine mx_getr hx hb hts i_Mo hown hK hM e9 (ci := 4) (C := R_Mo) (T := T_Mo) (N := 23) rfl 14 (by decide) (hts _ wd_24) d_Mo_depart_48 ?_
      refine lv_iload hx hb d_Mo_depart_51 (lv_at hl 4 rfl) ?_
      obtain ⟨x10, e11, h⟩ := mx_b h
      refine mx_iald hx hb hK hM e11 rfl d_Mo_depart_53 ?_
      refine lv_if_le (tgt := 83) hx hb d_Mo_depart_54 (by decide) (fun c12 => ?_) (fun c12 => ?_)
      · rw [if_pos c12] at h
        refine lv_iconst (v := 0) hx hb d_Mo_depart_83 (by decide) ?_
        refine lv_istore (lv' := [(6, .int 0), (5, .int (((4 * v4) + x6))), (0, va_rf v0), (1, .int v1), (2, .long v2), (4, .int v4)]) hx hb d_Mo_depart_84 hl (by decide) rfl (fun ls hl => ?_)
        refine lv_iload hx hb d_Mo_depart_86 (lv_at hl 0 rfl) ?_
        refine lv_if_eq (tgt := 109) hx hb d_Mo_depart_88 (by decide) (fun c13 => ?_) (fun c13 => ?_)
        · refine lv_lconst (v := 0) hx hb d_Mo_depart_109 (by decide) ?_
          refine lv_lstore (lv' := [(7, .long 0), (6, .int 0), (5, .int (((4 * v4) + x6))), (0, va_rf v0), (1, .int v1), (2, .long v2), (4, .int v4)]) hx hb d_Mo_depart_110 hl (by decide) rfl (fun ls hl => ?_)
          refine mx_aload_n hx hb d_Mo_depart_112 rfl (lv_at hl 3 rfl) ?_
          obtain ⟨x14, e15, h⟩ := mx_b h
          refine mx_getr hx hb hts i_Mo hown hK hM e15 (ci := 4) (C := R_Mo) (T := T_Mo) (N := 23) rfl 8 (by decide) (hts _ wd_19) d_Mo_depart_113 ?_
          refine lv_iload_n hx hb d_Mo_depart_116 rfl (lv_at hl 4 rfl) ?_
          refine lv_iload hx hb d_Mo_depart_117 (lv_at hl 1 rfl) ?_
          refine lv_if_eq (tgt := 153) hx hb d_Mo_depart_119 (by decide) (fun c16 => ?_) (fun c16 => ?_)
          · refine mx_aload_n hx hb d_Mo_depart_153 rfl (lv_at hl 3 rfl) ?_
            obtain ⟨x17, e18, h⟩ := mx_b h
            refine mx_getr hx hb hts i_Mo hown hK hM e18 (ci := 4) (C := R_Mo) (T := T_Mo) (N := 23) rfl 8 (by decide) (hts _ wd_19) d_Mo_depart_154 ?_
            refine lv_iload_n hx hb d_Mo_depart_157 rfl (lv_at hl 4 rfl) ?_
            obtain ⟨x19, e20, h⟩ := mx_b h
            refine mx_lald hx hb hK hM e20 rfl d_Mo_depart_158 ?_
            obtain ⟨m22, e21, h⟩ := mx_b h
            refine mx_last hx hb hK hM hS e21 rfl d_Mo_depart_159 (fun H locs hM hS => ?_)
            refine lv_iinc (v := (v4 + 1)) (lv' := [(4, .int ((v4 + 1))), (7, .long 0), (6, .int 0), (5, .int (((4 * v4) + x6))), (0, va_rf v0), (1, .int v1), (2, .long v2)]) hx hb d_Mo_depart_160 hl (k := 6) rfl rfl (by decide) rfl (fun ls hl => ?_)
            refine lv_goto (tgt := 24) hx hb d_Mo_depart_163 (by decide) ?_
            exact ih _ _ _ _ _ h _ _ _ (lv_sub hl [4, 5, 6, 0] rfl) hM hS
          · exact absurd c16 (by decide)
        · exact absurd c13 (by decide)
      · rw [if_neg c12] at h
        refine mx_aload_n hx hb d_Mo_depart_57 rfl (lv_at hl 1 rfl) ?_
        obtain ⟨x13, e14, h⟩ := mx_b h
        refine mx_getr hx hb hts i_Mo hown hK hM e14 (ci := 4) (C := R_Mo) (T := T_Mo) (N := 23) rfl 16 (by decide) (hts _ wd_26) d_Mo_depart_58 ?_
        refine lv_iload hx hb d_Mo_depart_61 (lv_at hl 0 rfl) ?_
        obtain ⟨x15, e16, h⟩ := mx_b h
        refine mx_iald hx hb hK hM e16 rfl d_Mo_depart_63 ?_
        refine lv_iconst (v := 1) hx hb d_Mo_depart_64 (by decide) ?_
        refine lv_icmp_ne (tgt := 83) hx hb d_Mo_depart_65 (by decide) (fun c17 => ?_) (fun c17 => ?_)
        · rw [if_neg c17] at h
          refine lv_iconst (v := 0) hx hb d_Mo_depart_83 (by decide) ?_
          refine lv_istore (lv' := [(6, .int 0), (5, .int (((4 * v4) + x6))), (0, va_rf v0), (1, .int v1), (2, .long v2), (4, .int v4)]) hx hb d_Mo_depart_84 hl (by decide) rfl (fun ls hl => ?_)
          refine lv_iload hx hb d_Mo_depart_86 (lv_at hl 0 rfl) ?_
          refine lv_if_eq (tgt := 109) hx hb d_Mo_depart_88 (by decide) (fun c18 => ?_) (fun c18 => ?_)
          · refine lv_lconst (v := 0) hx hb d_Mo_depart_109 (by decide) ?_
            refine lv_lstore (lv' := [(7, .long 0), (6, .int 0), (5, .int (((4 * v4) + x6))), (0, va_rf v0), (1, .int v1), (2, .long v2), (4, .int v4)]) hx hb d_Mo_depart_110 hl (by decide) rfl (fun ls hl => ?_)
            refine mx_aload_n hx hb d_Mo_depart_112 rfl (lv_at hl 3 rfl) ?_
            obtain ⟨x19, e20, h⟩ := mx_b h
            refine mx_getr hx hb hts i_Mo hown hK hM e20 (ci := 4) (C := R_Mo) (T := T_Mo) (N := 23) rfl 8 (by decide) (hts _ wd_19) d_Mo_depart_113 ?_
            refine lv_iload_n hx hb d_Mo_depart_116 rfl (lv_at hl 4 rfl) ?_
            refine lv_iload hx hb d_Mo_depart_117 (lv_at hl 1 rfl) ?_
            refine lv_if_eq (tgt := 153) hx hb d_Mo_depart_119 (by decide) (fun c21 => ?_) (fun c21 => ?_)
            · refine mx_aload_n hx hb d_Mo_depart_153 rfl (lv_at hl 3 rfl) ?_
              obtain ⟨x22, e23, h⟩ := mx_b h
              refine mx_getr hx hb hts i_Mo hown hK hM e23 (ci := 4) (C := R_Mo) (T := T_Mo) (N := 23) rfl 8 (by decide) (hts _ wd_19) d_Mo_depart_154 ?_
              refine lv_iload_n hx hb d_Mo_depart_157 rfl (lv_at hl 4 rfl) ?_
              obtain ⟨x24, e25, h⟩ := mx_b h
              refine mx_lald hx hb hK hM e25 rfl d_Mo_depart_158 ?_
              obtain ⟨m27, e26, h⟩ := mx_b h
              refine mx_last hx hb hK hM hS e26 rfl d_Mo_depart_159 (fun H locs hM hS => ?_)
              refine lv_iinc (v := (v4 + 1)) (lv' := [(4, .int ((v4 + 1))), (7, .long 0), (6, .int 0), (5, .int (((4 * v4) + x6))), (0, va_rf v0), (1, .int v1), (2, .long v2)]) hx hb d_Mo_depart_160 hl (k := 6) rfl rfl (by decide) rfl (fun ls hl => ?_)
              refine lv_goto (tgt := 24) hx hb d_Mo_depart_163 (by decide) ?_
              exact ih _ _ _ _ _ h _ _ _ (lv_sub hl [4, 5, 6, 0] rfl) hM hS
            · exact absurd c21 (by decide)
          · exact absurd c18 (by decide)
        · rw [if_pos c17] at h
          refine mx_aload_n hx hb d_Mo_depart_68 rfl (lv_at hl 1 rfl) ?_
          obtain ⟨x18, e19, h⟩ := mx_b h
          refine mx_getr hx hb hts i_Mo hown hK hM e19 (ci := 4) (C := R_Mo) (T := T_Mo) (N := 23) rfl 17 (by decide) (hts _ wd_27) d_Mo_depart_69 ?_
          refine lv_iload hx hb d_Mo_depart_72 (lv_at hl 0 rfl) ?_
          obtain ⟨x20, e21, h⟩ := mx_b h
          refine mx_iald hx hb hK hM e21 rfl d_Mo_depart_74 ?_
          refine lv_iload_n hx hb d_Mo_depart_75 rfl (lv_at hl 2 rfl) ?_
          refine lv_icmp_ne (tgt := 83) hx hb d_Mo_depart_76 (by decide) (fun c22 => ?_) (fun c22 => ?_)
          · rw [if_neg c22] at h
            refine lv_iconst (v := 0) hx hb d_Mo_depart_83 (by decide) ?_
            refine lv_istore (lv' := [(6, .int 0), (5, .int (((4 * v4) + x6))), (0, va_rf v0), (1, .int v1), (2, .long v2), (4, .int v4)]) hx hb d_Mo_depart_84 hl (by decide) rfl (fun ls hl => ?_)
            refine lv_iload hx hb d_Mo_depart_86 (lv_at hl 0 rfl) ?_
            refine lv_if_eq (tgt := 109) hx hb d_Mo_depart_88 (by decide) (fun c23 => ?_) (fun c23 => ?_)
            · refine lv_lconst (v := 0) hx hb d_Mo_depart_109 (by decide) ?_
              refine lv_lstore (lv' := [(7, .long 0), (6, .int 0), (5, .int (((4 * v4) + x6))), (0, va_rf v0), (1, .int v1), (2, .long v2), (4, .int v4)]) hx hb d_Mo_depart_110 hl (by decide) rfl (fun ls hl => ?_)
              refine mx_aload_n hx hb d_Mo_depart_112 rfl (lv_at hl 3 rfl) ?_
              obtain ⟨x24, e25, h⟩ := mx_b h
              refine mx_getr hx hb hts i_Mo hown hK hM e25 (ci := 4) (C := R_Mo) (T := T_Mo) (N := 23) rfl 8 (by decide) (hts _ wd_19) d_Mo_depart_113 ?_
              refine lv_iload_n hx hb d_Mo_depart_116 rfl (lv_at hl 4 rfl) ?_
              refine lv_iload hx hb d_Mo_depart_117 (lv_at hl 1 rfl) ?_
              refine lv_if_eq (tgt := 153) hx hb d_Mo_depart_119 (by decide) (fun c26 => ?_) (fun c26 => ?_)
              · refine mx_aload_n hx hb d_Mo_depart_153 rfl (lv_at hl 3 rfl) ?_
                obtain ⟨x27, e28, h⟩ := mx_b h
                refine mx_getr hx hb hts i_Mo hown hK hM e28 (ci := 4) (C := R_Mo) (T := T_Mo) (N := 23) rfl 8 (by decide) (hts _ wd_19) d_Mo_depart_154 ?_
                refine lv_iload_n hx hb d_Mo_depart_157 rfl (lv_at hl 4 rfl) ?_
                obtain ⟨x29, e30, h⟩ := mx_b h
                refine mx_lald hx hb hK hM e30 rfl d_Mo_depart_158 ?_
                obtain ⟨m32, e31, h⟩ := mx_b h
                refine mx_last hx hb hK hM hS e31 rfl d_Mo_depart_159 (fun H locs hM hS => ?_)
                refine lv_iinc (v := (v4 + 1)) (lv' := [(4, .int ((v4 + 1))), (7, .long 0), (6, .int 0), (5, .int (((4 * v4) + x6))), (0, va_rf v0), (1, .int v1), (2, .long v2)]) hx hb d_Mo_depart_160 hl (k := 6) rfl rfl (by decide) rfl (fun ls hl => ?_)
                refine lv_goto (tgt := 24) hx hb d_Mo_depart_163 (by decide) ?_
                exact ih _ _ _ _ _ h _ _ _ (lv_sub hl [4, 5, 6, 0] rfl) hM hS
              · exact absurd c26 (by decide)
            · exact absurd c23 (by decide)
          · rw [if_pos c22] at h
            refine lv_iconst (v := 1) hx hb d_Mo_depart_79 (by decide) ?_
            refine lv_goto (tgt := 84) hx hb d_Mo_depart_80 (by decide) ?_
            refine lv_istore (lv' := [(6, .int 1), (5, .int (((4 * v4) + x6))), (0, va_rf v0), (1, .int v1), (2, .long v2), (4, .int v4)]) hx hb d_Mo_depart_84 hl (by decide) rfl (fun ls hl => ?_)
            refine lv_iload hx hb d_Mo_depart_86 (lv_at hl 0 rfl) ?_
            refine lv_if_eq (tgt := 109) hx hb d_Mo_depart_88 (by decide) (fun c23 => ?_) (fun c23 => ?_)
            · exact absurd c23 (by decide)
            · refine mx_aload_n hx hb d_Mo_depart_91 rfl (lv_at hl 2 rfl) ?_
              refine mx_aload_n hx hb d_Mo_depart_92 rfl (lv_at hl 2 rfl) ?_
              obtain ⟨x24, e25, h⟩ := mx_b h
              refine mx_getr hx hb hts i_Mo hown hK hM e25 (ci := 4) (C := R_Mo) (T := T_Mo) (N := 23) rfl 10 (by decide) (hts _ wd_20) d_Mo_depart_93 ?_
              refine lv_iload hx hb d_Mo_depart_96 (lv_at hl 5 rfl) ?_
              obtain ⟨x26, e27, h⟩ := mx_b h
              refine mx_iald hx hb hK hM e27 rfl d_Mo_depart_98 ?_
              obtain ⟨a31, e30, h⟩ := mx_b h
              obtain ⟨q28, e29, h⟩ := mx_b h
              have e32 := mx_c_eq e30
              refine W.eq (g2 := F0 m 99 ls [.int x26, .ref a31]) (congrArg (fun z => F0 m 99 ls [.int x26, va_rf z]) e32) ?_
              refine gq_go (va_runV (b := a31) (As := [.int x26]) (rest := []) ⟨hx, hb, hml, hown, hts⟩ (c_Mo_there l G a31 x26 _ _ e29) (cwV 1 hts (gq_gV wd_194 wd_195 wd_196 wd_114 wd_193) rfl rfl rfl (by decide +kernel) ⟨Nat.le_trans (Nat.le_of_ble_eq_true rfl) hRf, Nat.le_trans (Nat.le_of_ble_eq_true rfl) hRl⟩) (gq_preV hK hN hM hS hb0 e30 (C := R_Mo) (T := T_Mo) (N := 23) rfl) rfl rfl hl.1 rfl (lv_room (Nat.le_of_ble_eq_true rfl)) d_Mo_depart_99 ⟨Nat.le_trans (Nat.le_of_ble_eq_true rfl) hRc, Nat.le_trans (Nat.le_of_ble_eq_true rfl) hRs⟩) hS (fun H locs hM hS => ?_)
              refine W.eq (g2 := F0 m 102 ls [.long q28.1]) rfl ?_
              refine lv_ldc2 (v := 10) hx hb hown (hts _ wd_197) d_Mo_depart_102 ?_
              refine lv_ladd hx hb d_Mo_depart_105 ?_
              refine lv_goto (tgt := 110) hx hb d_Mo_depart_106 (by decide) ?_
              refine lv_lstore (lv' := [(7, .long ((q28.1 + 10))), (6, .int 1), (5, .int (((4 * v4) + x6))), (0, va_rf v0), (1, .int v1), (2, .long v2), (4, .int v4)]) hx hb d_Mo_depart_110 hl (by decide) rfl (fun ls hl => ?_)
              refine mx_aload_n hx hb d_Mo_depart_112 rfl (lv_at hl 3 rfl) ?_
              obtain ⟨x33, e34, h⟩ := mx_b h
              refine mx_getr hx hb hts i_Mo hown hK hM e34 (ci := 4) (C := R_Mo) (T := T_Mo) (N := 23) rfl 8 (by decide) (hts _ wd_19) d_Mo_depart_113 ?_
              refine lv_iload_n hx hb d_Mo_depart_116 rfl (lv_at hl 4 rfl) ?_
              refine lv_iload hx hb d_Mo_depart_117 (lv_at hl 1 rfl) ?_
              refine lv_if_eq (tgt := 153) hx hb d_Mo_depart_119 (by decide) (fun c35 => ?_) (fun c35 => ?_)
              · exact absurd c35 (by decide)
              · refine lv_lload hx hb d_Mo_depart_122 (lv_at hl 0 rfl) ?_
                refine lv_lload_n hx hb d_Mo_depart_124 rfl (lv_at hl 5 rfl) ?_
                refine mx_aload_n hx hb d_Mo_depart_125 rfl (lv_at hl 3 rfl) ?_
                obtain ⟨x36, e37, h⟩ := mx_b h
                refine mx_getr hx hb hts i_Mo hown hK hM e37 (ci := 4) (C := R_Mo) (T := T_Mo) (N := 23) rfl 7 (by decide) (hts _ wd_18) d_Mo_depart_126 ?_
                refine lv_iload_n hx hb d_Mo_depart_129 rfl (lv_at hl 4 rfl) ?_
                obtain ⟨x38, e39, h⟩ := mx_b h
                refine mx_lald hx hb hK hM e39 rfl d_Mo_depart_130 ?_
                refine lv_ladd hx hb d_Mo_depart_131 ?_
                refine mx_lcmp_gt (tgt := 153) hx hb d_Mo_depart_132 d_Mo_depart_133 (by decide) (fun c40 => ?_) (fun c40 => ?_)
                · rw [if_pos c40] at h
                  refine mx_aload_n hx hb d_Mo_depart_153 rfl (lv_at hl 3 rfl) ?_
                  obtain ⟨x41, e42, h⟩ := mx_b h
                  refine mx_getr hx hb hts i_Mo hown hK hM e42 (ci := 4) (C := R_Mo) (T := T_Mo) (N := 23) rfl 8 (by decide) (hts _ wd_19) d_Mo_depart_154 ?_
                  refine lv_iload_n hx hb d_Mo_depart_157 rfl (lv_at hl 4 rfl) ?_
                  obtain ⟨x43, e44, h⟩ := mx_b h
                  refine mx_lald hx hb hK hM e44 rfl d_Mo_depart_158 ?_
                  obtain ⟨m46, e45, h⟩ := mx_b h
                  refine mx_last hx hb hK hM hS e45 rfl d_Mo_depart_159 (fun H locs hM hS => ?_)
                  refine lv_iinc (v := (v4 + 1)) (lv' := [(4, .int ((v4 + 1))), (7, .long ((q28.1 + 10))), (6, .int 1), (5, .int (((4 * v4) + x6))), (0, va_rf v0), (1, .int v1), (2, .long v2)]) hx hb d_Mo_depart_160 hl (k := 6) rfl rfl (by decide) rfl (fun ls hl => ?_)
                  refine lv_goto (tgt := 24) hx hb d_Mo_depart_163 (by decide) ?_
                  exact ih _ _ _ _ _ h _ _ _ (lv_sub hl [4, 5, 6, 0] rfl) hM hS
                · rw [if_neg c40] at h
                  refine lv_lload hx hb d_Mo_depart_136 (lv_at hl 0 rfl) ?_
                  refine mx_aload_n hx hb d_Mo_depart_138 rfl (lv_at hl 3 rfl) ?_
                  obtain ⟨x41, e42, h⟩ := mx_b h
                  refine mx_getr hx hb hts i_Mo hown hK hM e42 (ci := 4) (C := R_Mo) (T := T_Mo) (N := 23) rfl 8 (by decide) (hts _ wd_19) d_Mo_depart_139 ?_
                  refine lv_iload_n hx hb d_Mo_depart_142 rfl (lv_at hl 4 rfl) ?_
                  obtain ⟨x43, e44, h⟩ := mx_b h
                  refine mx_lald hx hb hK hM e44 rfl d_Mo_depart_143 ?_
                  refine mx_lcmp_le (tgt := 153) hx hb d_Mo_depart_144 d_Mo_depart_145 (by decide) (fun c45 => ?_) (fun c45 => ?_)
                  · rw [if_pos c45] at h
                    refine mx_aload_n hx hb d_Mo_depart_153 rfl (lv_at hl 3 rfl) ?_
                    obtain ⟨x46, e47, h⟩ := mx_b h
                    refine mx_getr hx hb hts i_Mo hown hK hM e47 (ci := 4) (C := R_Mo) (T := T_Mo) (N := 23) rfl 8 (by decide) (hts _ wd_19) d_Mo_depart_154 ?_
                    refine lv_iload_n hx hb d_Mo_depart_157 rfl (lv_at hl 4 rfl) ?_
                    obtain ⟨x48, e49, h⟩ := mx_b h
                    refine mx_lald hx hb hK hM e49 rfl d_Mo_depart_158 ?_
                    obtain ⟨m51, e50, h⟩ := mx_b h
                    refine mx_last hx hb hK hM hS e50 rfl d_Mo_depart_159 (fun H locs hM hS => ?_)
                    refine lv_iinc (v := (v4 + 1)) (lv' := [(4, .int ((v4 + 1))), (7, .long ((q28.1 + 10))), (6, .int 1), (5, .int (((4 * v4) + x6))), (0, va_rf v0), (1, .int v1), (2, .long v2)]) hx hb d_Mo_depart_160 hl (k := 6) rfl rfl (by decide) rfl (fun ls hl => ?_)
                    refine lv_goto (tgt := 24) hx hb d_Mo_depart_163 (by decide) ?_
                    exact ih _ _ _ _ _ h _ _ _ (lv_sub hl [4, 5, 6, 0] rfl) hM hS
                  · rw [if_neg c45] at h
                    refine lv_lload hx hb d_Mo_depart_148 (lv_at hl 0 rfl) ?_
                    refine lv_goto (tgt := 159) hx hb d_Mo_depart_150 (by decide) ?_
                    obtain ⟨m47, e46, h⟩ := mx_b h
                    refine mx_last hx hb hK hM hS e46 rfl d_Mo_depart_159 (fun H locs hM hS => ?_)
                    refine lv_iinc (v := (v4 + 1)) (lv' := [(4, .int ((v4 + 1))), (7, .long ((q28.1 + 10))), (6, .int 1), (5, .int (((4 * v4) + x6))), (0, va_rf v0), (1, .int v1), (2, .long v2)]) hx hb d_Mo_depart_160 hl (k := 6) rfl rfl (by decide) rfl (fun ls hl => ?_)
                    refine lv_goto (tgt := 24) hx hb d_Mo_depart_163 (by decide) ?_
                    exact ih _ _ _ _ _ h _ _ _ (lv_sub hl [4, 5, 6, 0] rfl) hM hS
set_option maxHeartbeats 4000000 in
set_option maxRecDepth 100000 in
theorem c_Mo_depart (l : Launch) (G : mx_G) (a0 : Nat) (v1 : Int32) (mem : mx_Mem) (q : mx_Mem) (h : f_Mo_depart a0 v1 mem = some q) : Met l y_Mo_depart (gq_w y_Mo_depart b_Mo_depart 9 none) { frames := 1, cells := 0, slots := 0, locals := 21 } (gq_P G [.ref a0, .int v1] mem) (gq_Q G none q) 0 0 (mx_A G) := by
  refine Met.ofW (cc := b_Mo_depart) (maxL := 9) (ret := none) (by decide) rfl ?_
  intro p e s m args below meth c s₁ B hml hv
  obtain ⟨rfl, hb0, hM, hK, hN⟩ := hv
  have CX : gq_C p (headSpec (gq_w y_Mo_depart b_Mo_depart 9 none) { frames := 1, cells := 0, slots := 0, locals := 21 }).room s m _ meth c G b_Mo_depart 9 none R_Mo 1 0 0 21 := ⟨B.exec, B.bytes, hml, B.returns, findClass_of_methodNamed B.named, fun w hw => atoms_spec (ws := gq_w y_Mo_depart b_Mo_depart 9 none) B.pre w (List.mem_cons_of_mem _ hw), B.notSynchronized, hK, hN, hb0, Nat.le_refl _, Nat.le_refl _, Nat.le_refl _, Nat.le_refl _⟩
  obtain ⟨hx, hb, hml, hr, hown, hts, hlocks, hK, hN, hb0, hRf, hRc, hRs, hRl⟩ := id CX
  have hS : va_S (mx_A G) s.heap s.heap [] := va_S.rf
  have hl := lv_entry [.ref a0, .int v1] (n := 9) (Nat.le_of_ble_eq_true rfl)
  rw [lg_entry_eq]
  generalize (lg_sl [.ref a0, .int v1] ++ List.replicate (9 - (lg_sl [.ref a0, .int v1]).length) Slot.unset).toArray = ls at hl ⊢
  have hl : lv_has ls 9 [(0, va_rf (some a0)), (1, .int v1)] := hl
  unfold f_Mo_depart at h
  refine mx_aload_n hx hb d_Mo_depart_0 rfl (lv_at hl 0 rfl) ?_
  obtain ⟨x1, e2, h⟩ := mx_b h
  refine mx_getr hx hb hts i_Mo hown hK hM e2 (ci := 4) (C := R_Mo) (T := T_Mo) (N := 23) rfl 4 (by decide) (hts _ wd_15) d_Mo_depart_1 ?_
  refine lv_iload_n hx hb d_Mo_depart_4 rfl (lv_at hl 1 rfl) ?_
  obtain ⟨x3, e4, h⟩ := mx_b h
  refine mx_lald hx hb hK hM e4 rfl d_Mo_depart_5 ?_
  refine mx_aload_n hx hb d_Mo_depart_6 rfl (lv_at hl 0 rfl) ?_
  obtain ⟨x5, e6, h⟩ := mx_b h
  refine mx_getr hx hb hts i_Mo hown hK hM e6 (ci := 4) (C := R_Mo) (T := T_Mo) (N := 23) rfl 6 (by decide) (hts _ wd_17) d_Mo_depart_7 ?_
  refine lv_iload_n hx hb d_Mo_depart_10 rfl (lv_at hl 1 rfl) ?_
  obtain ⟨x7, e8, h⟩ := mx_b h
  refine mx_lald hx hb hK hM e8 rfl d_Mo_depart_11 ?_
  refine lv_ladd hx hb d_Mo_depart_12 ?_
  refine lv_lstore_n (lv' := [(2, .long ((x3 + x7))), (0, va_rf (some a0)), (1, .int v1)]) hx hb d_Mo_depart_13 rfl hl (by decide) rfl (fun ls hl => ?_)
  refine mx_aload_n hx hb d_Mo_depart_14 rfl (lv_at hl 1 rfl) ?_
  obtain ⟨x9, e10, h⟩ := mx_b h
  refine mx_getr hx hb hts i_Mo hown hK hM e10 (ci := 4) (C := R_Mo) (T := T_Mo) (N := 23) rfl 8 (by decide) (hts _ wd_19) d_Mo_depart_15 ?_
  refine lv_iload_n hx hb d_Mo_depart_18 rfl (lv_at hl 2 rfl) ?_
  refine lv_lload_n hx hb d_Mo_depart_19 rfl (lv_at hl 0 rfl) ?_
  obtain ⟨m12, e11, h⟩ := mx_b h
  refine mx_last hx hb hK hM hS e11 rfl d_Mo_depart_20 (fun H locs hM hS => ?_)
  refine lv_iconst (v := 1) hx hb d_Mo_depart_21 (by decide) ?_
  refine lv_istore (lv' := [(4, .int 1), (2, .long ((x3 + x7))), (0, va_rf (some a0)), (1, .int v1)]) hx hb d_Mo_depart_22 hl (by decide) rfl (fun ls hl => ?_)
  refine wfl_Mo_depart_24 q CX  5000 _ _ _ _ _ h _ _ _ (lv_sub hl [2, 3, 1, 0] rfl) hM hS
set_option maxHeartbeats 4000000 in
set_option maxRecDepth 100000 in
theorem wfj_Mo_arrive_112 {p : Program} {l : Launch} {e : Env} {R : Room} {s : State} {m : MethodId} {args : Array Value} {below : List Frame} {meth : Method} {c : Code} {G : mx_G} (q : mx_Mem) (CX : gq_C p R s m args meth c G b_Mo_arrive 6 none R_Mo 1 0 0 21) (v0 : Option Nat) (v1 : Int32) (v2 : Int64) (v4 : Int32) (mem : mx_Mem) (h : fj_Mo_arrive_112 v0 v1 v2 v4 mem = some q) (H : Heap) (locs : List Loc) (ls : Array Slot) (hl : lv_has ls 6 [(0, va_rf v0), (1, .int v1), (2, .long v2), (4, .int v4)]) (hM : mx_M vwCl G mem H) (hS : va_S (mx_A G) s.heap H locs) : W p l e R s m args below meth c H locs 0 0 (MQ below (gq_Q G none q) args s 0 0 (mx_A G)) (F0 m 112 ls []) := by
  obtain ⟨hx, hb, hml, hr, hown, hts, hlocks, hK, hN, hb0, hRf, hRc, hRs, hRl⟩ := id CX
  rw [fj_Mo_arrive_112] at h
  refine lv_iconst (v := 0) hx hb d_Mo_arrive_112 (by decide) ?_
  refine lv_istore (lv' := [(5, .int 0), (0, va_rf v0), (1, .int v1), (2, .long v2), (4, .int v4)]) hx hb d_Mo_arrive_113 hl (by decide) rfl (fun ls hl => ?_)
  refine mx_aload_n hx hb d_Mo_arrive_115 rfl (lv_at hl 1 rfl) ?_
  obtain ⟨x1, e2, h⟩ := mx_b h
  refine mx_getr hx hb hts i_Mo hown hK hM e2 (ci := 4) (C := R_Mo) (T := T_Mo) (N := 23) rfl 20 (by decide) (hts _ wd_31) d_Mo_arrive_116 ?_
  refine lv_iload_n hx hb d_Mo_arrive_119 rfl (lv_at hl 2 rfl) ?_
  refine lv_iload hx hb d_Mo_arrive_120 (lv_at hl 0 rfl) ?_
  refine lv_if_ne (tgt := 129) hx hb d_Mo_arrive_122 (by decide) (fun c3 => ?_) (fun c3 => ?_)
  · exact absurd c3 (by decide)
  · refine lv_iconst (v := 1) hx hb d_Mo_arrive_125 (by decide) ?_
    refine lv_goto (tgt := 130) hx hb d_Mo_arrive_126 (by decide) ?_
    obtain ⟨m5, e4, h⟩ := mx_b h
    refine mx_bast hx hb hK hM hS rfl e4 rfl d_Mo_arrive_130 (fun H locs hM hS => ?_)
    refine mx_aload_n hx hb d_Mo_arrive_131 rfl (lv_at hl 1 rfl) ?_
    obtain ⟨x6, e7, h⟩ := mx_b h
    refine mx_getr hx hb hts i_Mo hown hK hM e7 (ci := 4) (C := R_Mo) (T := T_Mo) (N := 23) rfl 19 (by decide) (hts _ wd_29) d_Mo_arrive_132 ?_
    refine lv_iload_n hx hb d_Mo_arrive_135 rfl (lv_at hl 2 rfl) ?_
    refine lv_iload hx hb d_Mo_arrive_136 (lv_at hl 0 rfl) ?_
    refine lv_if_eq (tgt := 155) hx hb d_Mo_arrive_138 (by decide) (fun c8 => ?_) (fun c8 => ?_)
    · refine lv_lload_n hx hb d_Mo_arrive_155 rfl (lv_at hl 3 rfl) ?_
      refine lv_ldc2 (v := 1440) hx hb hown (hts _ wd_198) d_Mo_arrive_156 ?_
      refine lv_ladd hx hb d_Mo_arrive_159 ?_
      obtain ⟨m10, e9, h⟩ := mx_b h
      refine mx_last hx hb hK hM hS e9 rfl d_Mo_arrive_160 (fun H locs hM hS => ?_)
      cases h
      exact W.vret hx hb hr (fun t ht hW => ⟨⟨rfl, by rw [ht]; exact hM⟩, hS.F ht⟩) hS.2.2 d_Mo_arrive_161
    · exact absurd c8 (by decide)
set_option maxHeartbeats 4000000 in
set_option maxRecDepth 100000 in
theorem wfj_Mo_arrive_78 {p : Program} {l : Launch} {e : Env} {R : Room} {s : State} {m : MethodId} {args : Array Value} {below : List Frame} {meth : Method} {c : Code} {G : mx_G} (q : mx_Mem) (CX : gq_C p R s m args meth c G b_Mo_arrive 6 none R_Mo 1 0 0 21) (v0 : Option Nat) (v1 : Int32) (v2 : Int64) (v4 : Int32) (mem : mx_Mem) (h : fj_Mo_arrive_78 v0 v1 v2 v4 mem = some q) (H : Heap) (locs : List Loc) (ls : Array Slot) (hl : lv_has ls 6 [(0, va_rf v0), (1, .int v1), (2, .long v2), (4, .int v4)]) (hM : mx_M vwCl G mem H) (hS : va_S (mx_A G) s.heap H locs) : W p l e R s m args below meth c H locs 0 0 (MQ below (gq_Q G none q) args s 0 0 (mx_A G)) (F0 m 78 ls []) := by
  obtain ⟨hx, hb, hml, hr, hown, hts, hlocks, hK, hN, hb0, hRf, hRc, hRs, hRl⟩ := id CX
  rw [fj_Mo_arrive_78] at h
  refine mx_aload_n hx hb d_Mo_arrive_78 rfl (lv_at hl 0 rfl) ?_
  obtain ⟨x1, e2, h⟩ := mx_b h
  refine mx_getr hx hb hts i_Mo hown hK hM e2 (ci := 4) (C := R_Mo) (T := T_Mo) (N := 23) rfl 14 (by decide) (hts _ wd_24) d_Mo_arrive_79 ?_
  refine lv_iload_n hx hb d_Mo_arrive_82 rfl (lv_at hl 1 rfl) ?_
  obtain ⟨x3, e4, h⟩ := mx_b h
  refine mx_iald hx hb hK hM e4 rfl d_Mo_arrive_83 ?_
  refine lv_if_le (tgt := 112) hx hb d_Mo_arrive_84 (by decide) (fun c5 => ?_) (fun c5 => ?_)
  · rw [if_pos c5] at h
    exact wfj_Mo_arrive_112 q CX _ _ _ _ _ h _ _ _ (lv_sub hl [0, 1, 2, 3] rfl) hM hS
  · rw [if_neg c5] at h
    refine mx_aload_n hx hb d_Mo_arrive_87 rfl (lv_at hl 0 rfl) ?_
    obtain ⟨x6, e7, h⟩ := mx_b h
    refine mx_getr hx hb hts i_Mo hown hK hM e7 (ci := 4) (C := R_Mo) (T := T_Mo) (N := 23) rfl 8 (by decide) (hts _ wd_19) d_Mo_arrive_88 ?_
    refine mx_aload_n hx hb d_Mo_arrive_91 rfl (lv_at hl 0 rfl) ?_
    obtain ⟨x8, e9, h⟩ := mx_b h
    refine mx_getr hx hb hts i_Mo hown hK hM e9 (ci := 4) (C := R_Mo) (T := T_Mo) (N := 23) rfl 17 (by decide) (hts _ wd_27) d_Mo_arrive_92 ?_
    refine lv_iload hx hb d_Mo_arrive_95 (lv_at hl 3 rfl) ?_
    obtain ⟨x10, e11, h⟩ := mx_b h
    refine mx_iald hx hb hK hM e11 rfl d_Mo_arrive_97 ?_
    obtain ⟨x12, e13, h⟩ := mx_b h
    refine mx_lald hx hb hK hM e13 rfl d_Mo_arrive_98 ?_
    refine lv_lload_n hx hb d_Mo_arrive_99 rfl (lv_at hl 2 rfl) ?_
    refine lv_ldc2 (v := 10) hx hb hown (hts _ wd_197) d_Mo_arrive_100 ?_
    refine lv_ladd hx hb d_Mo_arrive_103 ?_
    refine mx_lcmp_lt (tgt := 112) hx hb d_Mo_arrive_104 d_Mo_arrive_105 (by decide) (fun c14 => ?_) (fun c14 => ?_)
    · rw [if_pos c14] at h
      exact wfj_Mo_arrive_112 q CX _ _ _ _ _ h _ _ _ (lv_sub hl [0, 1, 2, 3] rfl) hM hS
    · rw [if_neg c14] at h
      refine lv_iconst (v := 1) hx hb d_Mo_arrive_108 (by decide) ?_
      refine lv_goto (tgt := 113) hx hb d_Mo_arrive_109 (by decide) ?_
      refine lv_istore (lv' := [(5, .int 1), (0, va_rf v0), (1, .int v1), (2, .long v2), (4, .int v4)]) hx hb d_Mo_arrive_113 hl (by decide) rfl (fun ls hl => ?_)
      refine mx_aload_n hx hb d_Mo_arrive_115 rfl (lv_at hl 1 rfl) ?_
      obtain ⟨x15, e16, h⟩ := mx_b h
      refine mx_getr hx hb hts i_Mo hown hK hM e16 (ci := 4) (C := R_Mo) (T := T_Mo) (N := 23) rfl 20 (by decide) (hts _ wd_31) d_Mo_arrive_116 ?_
      refine lv_iload_n hx hb d_Mo_arrive_119 rfl (lv_at hl 2 rfl) ?_
      refine lv_iload hx hb d_Mo_arrive_120 (lv_at hl 0 rfl) ?_
      refine lv_if_ne (tgt := 129) hx hb d_Mo_arrive_122 (by decide) (fun c17 => ?_) (fun c17 => ?_)
      · refine lv_iconst (v := 0) hx hb d_Mo_arrive_129 (by decide) ?_
        obtain ⟨m19, e18, h⟩ := mx_b h
        refine mx_bast hx hb hK hM hS rfl e18 rfl d_Mo_arrive_130 (fun H locs hM hS => ?_)
        refine mx_aload_n hx hb d_Mo_arrive_131 rfl (lv_at hl 1 rfl) ?_
        obtain ⟨x20, e21, h⟩ := mx_b h
        refine mx_getr hx hb hts i_Mo hown hK hM e21 (ci := 4) (C := R_Mo) (T := T_Mo) (N := 23) rfl 19 (by decide) (hts _ wd_29) d_Mo_arrive_132 ?_
        refine lv_iload_n hx hb d_Mo_arrive_135 rfl (lv_at hl 2 rfl) ?_
        refine lv_iload hx hb d_Mo_arrive_136 (lv_at hl 0 rfl) ?_
        refine lv_if_eq (tgt := 155) hx hb d_Mo_arrive_138 (by decide) (fun c22 => ?_) (fun c22 => ?_)
        · exact absurd c22 (by decide)
        · refine mx_aload_n hx hb d_Mo_arrive_141 rfl (lv_at hl 1 rfl) ?_
          refine mx_aload_n hx hb d_Mo_arrive_142 rfl (lv_at hl 1 rfl) ?_
          obtain ⟨x23, e24, h⟩ := mx_b h
          refine mx_getr hx hb hts i_Mo hown hK hM e24 (ci := 4) (C := R_Mo) (T := T_Mo) (N := 23) rfl 17 (by decide) (hts _ wd_27) d_Mo_arrive_143 ?_
          refine lv_iload hx hb d_Mo_arrive_146 (lv_at hl 4 rfl) ?_
          obtain ⟨x25, e26, h⟩ := mx_b h
          refine mx_iald hx hb hK hM e26 rfl d_Mo_arrive_148 ?_
          obtain ⟨a30, e29, h⟩ := mx_b h
          obtain ⟨q27, e28, h⟩ := mx_b h
          have e31 := mx_c_eq e29
          refine W.eq (g2 := F0 m 149 ls [.int x25, .ref a30, .int v1, va_rf x20]) (congrArg (fun z => F0 m 149 ls [.int x25, va_rf z, .int v1, va_rf x20]) e31) ?_
          refine gq_go (va_runV (b := a30) (As := [.int x25]) (rest := [.int v1, va_rf x20]) ⟨hx, hb, hml, hown, hts⟩ (c_Mo_there l G a30 x25 _ _ e28) (cwV 1 hts (gq_gV wd_194 wd_195 wd_196 wd_114 wd_193) rfl rfl rfl (by decide +kernel) ⟨Nat.le_trans (Nat.le_of_ble_eq_true rfl) hRf, Nat.le_trans (Nat.le_of_ble_eq_true rfl) hRl⟩) (gq_preV hK hN hM hS hb0 e29 (C := R_Mo) (T := T_Mo) (N := 23) rfl) rfl rfl hl.1 rfl (lv_room (by simp [mx_cat, mx_cati, mx_catl, mx_catr])) d_Mo_arrive_149 ⟨Nat.le_trans (Nat.le_of_ble_eq_true rfl) hRc, Nat.le_trans (Nat.le_of_ble_eq_true rfl) hRs⟩) hS (fun H locs hM hS => ?_)
          refine W.eq (g2 := F0 m 152 ls [.long q27.1, .int v1, va_rf x20]) rfl ?_
          refine lv_goto (tgt := 160) hx hb d_Mo_arrive_152 (by decide) ?_
          obtain ⟨m33, e32, h⟩ := mx_b h
          refine mx_last hx hb hK hM hS e32 rfl d_Mo_arrive_160 (fun H locs hM hS => ?_)
          cases h
          exact W.vret hx hb hr (fun t ht hW => ⟨⟨rfl, by rw [ht]; exact hM⟩, hS.F ht⟩) hS.2.2 d_Mo_arrive_161
      · exact absurd c17 (by decide)
set_option maxHeartbeats 4000000 in
set_option maxRecDepth 100000 in
theorem c_Mo_arrive (l : Launch) (G : mx_G) (a0 : Nat) (v1 : Int32) (mem : mx_Mem) (q : mx_Mem) (h : f_Mo_arrive a0 v1 mem = some q) : Met l y_Mo_arrive (gq_w y_Mo_arrive b_Mo_arrive 6 none) { frames := 1, cells := 0, slots := 0, locals := 21 } (gq_P G [.ref a0, .int v1] mem) (gq_Q G none q) 0 0 (mx_A G) := by
  refine Met.ofW (cc := b_Mo_arrive) (maxL := 6) (ret := none) (by decide) rfl ?_
  intro p e s m args below meth c s₁ B hml hv
  obtain ⟨rfl, hb0, hM, hK, hN⟩ := hv
  have CX : gq_C p (headSpec (gq_w y_Mo_arrive b_Mo_arrive 6 none) { frames := 1, cells := 0, slots := 0, locals := 21 }).room s m _ meth c G b_Mo_arrive 6 none R_Mo 1 0 0 21 := ⟨B.exec, B.bytes, hml, B.returns, findClass_of_methodNamed B.named, fun w hw => atoms_spec (ws := gq_w y_Mo_arrive b_Mo_arrive 6 none) B.pre w (List.mem_cons_of_mem _ hw), B.notSynchronized, hK, hN, hb0, Nat.le_refl _, Nat.le_refl _, Nat.le_refl _, Nat.le_refl _⟩
  obtain ⟨hx, hb, hml, hr, hown, hts, hlocks, hK, hN, hb0, hRf, hRc, hRs, hRl⟩ := id CX
  have hS : va_S (mx_A G) s.heap s.heap [] := va_S.rf
  have hl := lv_entry [.ref a0, .int v1] (n := 6) (Nat.le_of_ble_eq_true rfl)
  rw [lg_entry_eq]
  generalize (lg_sl [.ref a0, .int v1] ++ List.replicate (6 - (lg_sl [.ref a0, .int v1]).length) Slot.unset).toArray = ls at hl ⊢
  have hl : lv_has ls 6 [(0, va_rf (some a0)), (1, .int v1)] := hl
  unfold f_Mo_arrive at h
  refine mx_aload_n hx hb d_Mo_arrive_0 rfl (lv_at hl 0 rfl) ?_
  refine mx_aload_n hx hb d_Mo_arrive_1 rfl (lv_at hl 0 rfl) ?_
  obtain ⟨x1, e2, h⟩ := mx_b h
  refine mx_getr hx hb hts i_Mo hown hK hM e2 (ci := 4) (C := R_Mo) (T := T_Mo) (N := 23) rfl 10 (by decide) (hts _ wd_20) d_Mo_arrive_2 ?_
  refine lv_iload_n hx hb d_Mo_arrive_5 rfl (lv_at hl 1 rfl) ?_
  obtain ⟨x3, e4, h⟩ := mx_b h
  refine mx_iald hx hb hK hM e4 rfl d_Mo_arrive_6 ?_
  obtain ⟨a8, e7, h⟩ := mx_b h
  obtain ⟨q5, e6, h⟩ := mx_b h
  have e9 := mx_c_eq e7
  refine W.eq (g2 := F0 m 7 ls [.int x3, .ref a8]) (congrArg (fun z => F0 m 7 ls [.int x3, va_rf z]) e9) ?_
  refine gq_go (va_runV (b := a8) (As := [.int x3]) (rest := []) ⟨hx, hb, hml, hown, hts⟩ (c_Mo_there l G a8 x3 _ _ e6) (cwV 1 hts (gq_gV wd_194 wd_195 wd_196 wd_114 wd_193) rfl rfl rfl (by decide +kernel) ⟨Nat.le_trans (Nat.le_of_ble_eq_true rfl) hRf, Nat.le_trans (Nat.le_of_ble_eq_true rfl) hRl⟩) (gq_preV hK hN hM hS hb0 e7 (C := R_Mo) (T := T_Mo) (N := 23) rfl) rfl rfl hl.1 rfl (lv_room (Nat.le_of_ble_eq_true rfl)) d_Mo_arrive_7 ⟨Nat.le_trans (Nat.le_of_ble_eq_true rfl) hRc, Nat.le_trans (Nat.le_of_ble_eq_true rfl) hRs⟩) hS (fun H locs hM hS => ?_)
  refine W.eq (g2 := F0 m 10 ls [.long q5.1]) rfl ?_
  refine lv_lstore_n (lv' := [(2, .long q5.1), (0, va_rf (some a0)), (1, .int v1)]) hx hb d_Mo_arrive_10 rfl hl (by decide) rfl (fun ls hl => ?_)
  refine mx_aload_n hx hb d_Mo_arrive_11 rfl (lv_at hl 1 rfl) ?_
  obtain ⟨x10, e11, h⟩ := mx_b h
  refine mx_getr hx hb hts i_Mo hown hK hM e11 (ci := 4) (C := R_Mo) (T := T_Mo) (N := 23) rfl 20 (by decide) (hts _ wd_31) d_Mo_arrive_12 ?_
  refine lv_iload_n hx hb d_Mo_arrive_15 rfl (lv_at hl 2 rfl) ?_
  refine lv_iconst (v := 0) hx hb d_Mo_arrive_16 (by decide) ?_
  obtain ⟨m13, e12, h⟩ := mx_b h
  refine mx_bast hx hb hK hM hS rfl e12 rfl d_Mo_arrive_17 (fun H locs hM hS => ?_)
  refine mx_aload_n hx hb d_Mo_arrive_18 rfl (lv_at hl 1 rfl) ?_
  refine lv_iload_n hx hb d_Mo_arrive_19 rfl (lv_at hl 2 rfl) ?_
  obtain ⟨a17, e16, h⟩ := mx_b h
  obtain ⟨q14, e15, h⟩ := mx_b h
  have e18 := mx_c_eq e16
  refine W.eq (g2 := F0 m 20 ls [.int v1, .ref a17]) (congrArg (fun z => F0 m 20 ls [.int v1, va_rf z]) e18) ?_
  refine gq_go (va_runV (b := a17) (As := [.int v1]) (rest := []) ⟨hx, hb, hml, hown, hts⟩ (c_Mo_isDirect l G a17 v1 _ _ e15) (cwV 1 hts (gq_gV wd_178 wd_179 wd_180 wd_114 wd_177) rfl rfl rfl (by decide +kernel) ⟨Nat.le_trans (Nat.le_of_ble_eq_true rfl) hRf, Nat.le_trans (Nat.le_of_ble_eq_true rfl) hRl⟩) (gq_preV hK hN hM hS hb0 e16 (C := R_Mo) (T := T_Mo) (N := 23) rfl) rfl rfl hl.1 rfl (lv_room (Nat.le_of_ble_eq_true rfl)) d_Mo_arrive_20 ⟨Nat.le_trans (Nat.le_of_ble_eq_true rfl) hRc, Nat.le_trans (Nat.le_of_ble_eq_true rfl) hRs⟩) hS (fun H locs hM hS => ?_)
  refine W.eq (g2 := F0 m 23 ls [.int q14.1]) rfl ?_
  refine lv_if_eq (tgt := 34) hx hb d_Mo_arrive_23 (by decide) (fun c19 => ?_) (fun c19 => ?_)
  · rw [if_pos c19] at h
    refine lv_iconst (v := 4) hx hb d_Mo_arrive_34 (by decide) ?_
    refine lv_iload_n hx hb d_Mo_arrive_35 rfl (lv_at hl 2 rfl) ?_
    refine lv_imul hx hb d_Mo_arrive_36 ?_
    refine mx_aload_n hx hb d_Mo_arrive_37 rfl (lv_at hl 1 rfl) ?_
    obtain ⟨x20, e21, h⟩ := mx_b h
    refine mx_getr hx hb hts i_Mo hown hK hM e21 (ci := 4) (C := R_Mo) (T := T_Mo) (N := 23) rfl 15 (by decide) (hts _ wd_25) d_Mo_arrive_38 ?_
    refine lv_iload_n hx hb d_Mo_arrive_41 rfl (lv_at hl 2 rfl) ?_
    obtain ⟨x22, e23, h⟩ := mx_b h
    refine mx_iald hx hb hK hM e23 rfl d_Mo_arrive_42 ?_
    refine lv_iadd hx hb d_Mo_arrive_43 ?_
    refine lv_istore (lv' := [(4, .int (((4 * v1) + x22))), (2, .long q5.1), (0, va_rf (some a0)), (1, .int v1)]) hx hb d_Mo_arrive_44 hl (by decide) rfl (fun ls hl => ?_)
    refine mx_aload_n hx hb d_Mo_arrive_46 rfl (lv_at hl 2 rfl) ?_
    obtain ⟨x24, e25, h⟩ := mx_b h
    refine mx_getr hx hb hts i_Mo hown hK hM e25 (ci := 4) (C := R_Mo) (T := T_Mo) (N := 23) rfl 14 (by decide) (hts _ wd_24) d_Mo_arrive_47 ?_
    refine lv_iload_n hx hb d_Mo_arrive_50 rfl (lv_at hl 3 rfl) ?_
    obtain ⟨x26, e27, h⟩ := mx_b h
    refine mx_iald hx hb hK hM e27 rfl d_Mo_arrive_51 ?_
    refine lv_if_le (tgt := 78) hx hb d_Mo_arrive_52 (by decide) (fun c28 => ?_) (fun c28 => ?_)
    · rw [if_pos c28] at h
      exact wfj_Mo_arrive_78 q CX _ _ _ _ _ h _ _ _ (lv_sub hl [2, 3, 1, 0] rfl) hM hS
    · rw [if_neg c28] at h
      refine mx_aload_n hx hb d_Mo_arrive_55 rfl (lv_at hl 2 rfl) ?_
      obtain ⟨x29, e30, h⟩ := mx_b h
      refine mx_getr hx hb hts i_Mo hown hK hM e30 (ci := 4) (C := R_Mo) (T := T_Mo) (N := 23) rfl 16 (by decide) (hts _ wd_26) d_Mo_arrive_56 ?_
      refine lv_iload hx hb d_Mo_arrive_59 (lv_at hl 0 rfl) ?_
      obtain ⟨x31, e32, h⟩ := mx_b h
      refine mx_iald hx hb hK hM e32 rfl d_Mo_arrive_61 ?_
      refine lv_iconst (v := 2) hx hb d_Mo_arrive_62 (by decide) ?_
      refine lv_icmp_ne (tgt := 78) hx hb d_Mo_arrive_63 (by decide) (fun c33 => ?_) (fun c33 => ?_)
      · rw [if_neg c33] at h
        exact wfj_Mo_arrive_78 q CX _ _ _ _ _ h _ _ _ (lv_sub hl [2, 3, 1, 0] rfl) hM hS
      · rw [if_pos c33] at h
        refine mx_aload_n hx hb d_Mo_arrive_66 rfl (lv_at hl 2 rfl) ?_
        obtain ⟨x34, e35, h⟩ := mx_b h
        refine mx_getr hx hb hts i_Mo hown hK hM e35 (ci := 4) (C := R_Mo) (T := T_Mo) (N := 23) rfl 19 (by decide) (hts _ wd_29) d_Mo_arrive_67 ?_
        refine lv_iload_n hx hb d_Mo_arrive_70 rfl (lv_at hl 3 rfl) ?_
        refine lv_lload_n hx hb d_Mo_arrive_71 rfl (lv_at hl 1 rfl) ?_
        refine lv_ldc2 (v := 60) hx hb hown (hts _ wd_199) d_Mo_arrive_72 ?_
        refine lv_ladd hx hb d_Mo_arrive_75 ?_
        obtain ⟨m37, e36, h⟩ := mx_b h
        refine mx_last hx hb hK hM hS e36 rfl d_Mo_arrive_76 (fun H locs hM hS => ?_)
        cases h
        exact W.vret hx hb hr (fun t ht hW => ⟨⟨rfl, by rw [ht]; exact hM⟩, hS.F ht⟩) hS.2.2 d_Mo_arrive_77
  · rw [if_neg c19] at h
    refine mx_aload_n hx hb d_Mo_arrive_26 rfl (lv_at hl 1 rfl) ?_
    obtain ⟨x20, e21, h⟩ := mx_b h
    refine mx_getr hx hb hts i_Mo hown hK hM e21 (ci := 4) (C := R_Mo) (T := T_Mo) (N := 23) rfl 19 (by decide) (hts _ wd_29) d_Mo_arrive_27 ?_
    refine lv_iload_n hx hb d_Mo_arrive_30 rfl (lv_at hl 2 rfl) ?_
    refine lv_lload_n hx hb d_Mo_arrive_31 rfl (lv_at hl 0 rfl) ?_
    obtain ⟨m23, e22, h⟩ := mx_b h
    refine mx_last hx hb hK hM hS e22 rfl d_Mo_arrive_32 (fun H locs hM hS => ?_)
    cases h
    exact W.vret hx hb hr (fun t ht hW => ⟨⟨rfl, by rw [ht]; exact hM⟩, hS.F ht⟩) hS.2.2 d_Mo_arrive_33
end
section
set_option maxHeartbeats 4000000 in
set_option maxRecDepth 100000 in
theorem wfl_Mo_reckon_24 {p : Program} {l : Launch} {e : Env} {R : Room} {s : State} {m : MethodId} {args : Array Value} {below : List Frame} {meth : Method} {c : Code} {G : mx_G} (q : mx_Mem) (CX : gq_C p R s m args meth c G b_Mo_reckon 8 none R_Mo 2 0 0 49) {k0 : Option Nat → Int32 → Int32 → mx_Mem → Option (mx_Mem)} (hk0 : ∀ (v0 : Option Nat) (v4 : Int32) (v5 : Int32) (mem : mx_Mem), k0 v0 v4 v5 mem = some q → ∀ (H : Heap) (locs : List Loc) (ls : Array Slot), lv_has ls 8 [(0, va_rf v0), (4, .int v4), (5, .int v5)] → mx_M vwCl G mem H → va_S (mx_A G) s.heap H locs → W p l e R s m args below meth c H locs 0 0 (MQ below (gq_Q G none q) args s 0 0 (mx_A G)) (F0 m 113 ls [])) : ∀ (n : Nat) (v0 : Option Nat) (v1 : Int64) (v3 : Int32) (v4 : Int32) (v5 : Int32) (v6 : Int32) (mem : mx_Mem), fl_Mo_reckon_24 k0 n v0 v1 v3 v4 v5 v6 mem = some q → ∀ (H : Heap) (locs : List Loc) (ls : Array Slot), lv_has ls 8 [(0, va_rf v0), (1, .long v1), (3, .int v3), (4, .int v4), (5, .int v5), (6, .int v6)] → mx_M vwCl G mem H → va_S (mx_A G) s.heap H locs → W p l e R s m args below meth c H locs 0 0 (MQ below (gq_Q G none q) args s 0 0 (mx_A G)) (F0 m 24 ls []) := by
  obtain ⟨hx, hb, hml, hr, hown, hts, hlocks, hK, hN, hb0, hRf, hRc, hRs, hRl⟩ := id CX
  intro n
  induction n with
  | zero => intro v0 v1 v3 v4 v5 v6 mem h; rw [fl_Mo_reckon_24] at h; cases h
  | succ n ih =>
    intro v0 v1 v3 v4 v5 v6 mem h H locs ls hl hM hS
    rw [fl_Mo_reckon_24] at h
    refine lv_iload hx hb d_Mo_reckon_24 (lv_at hl 5 rfl) ?_
    refine mx_aload_n hx hb d_Mo_reckon_26 rfl (lv_at hl 0 rfl) ?_
    obtain ⟨x1, e2, h⟩ := mx_b h
    refine mx_geti hx hb hts i_Mo hown hK hM e2 (ci := 4) (C := R_Mo) (T := T_Mo) (N := 23) rfl 1 (by decide) (hts _ wd_116) d_Mo_reckon_27 ?_
    refine lv_icmp_gt (tgt := 113) hx hb d_Mo_reckon_30 (by decide) (fun c3 => ?_) (fun c3 => ?_)
    · rw [if_pos c3] at h
      exact hk0 _ _ _ _ h _ _ _ (lv_sub hl [0, 3, 4] rfl) hM hS
    · rw [if_neg c3] at h
      refine mx_aload_n hx hb d_Mo_reckon_33 rfl (lv_at hl 0 rfl) ?_
      obtain ⟨x4, e5, h⟩ := mx_b h
      refine mx_getr hx hb hts i_Mo hown hK hM e5 (ci := 4) (C := R_Mo) (T := T_Mo) (N := 23) rfl 4 (by decide) (hts _ wd_15) d_Mo_reckon_34 ?_
      refine lv_iload hx hb d_Mo_reckon_37 (lv_at hl 5 rfl) ?_
      obtain ⟨x6, e7, h⟩ := mx_b h
      refine mx_lald hx hb hK hM e7 rfl d_Mo_reckon_39 ?_
      refine lv_lload_n hx hb d_Mo_reckon_40 rfl (lv_at hl 1 rfl) ?_
      refine mx_lcmp_gt (tgt := 63) hx hb d_Mo_reckon_41 d_Mo_reckon_42 (by decide) (fun c8 => ?_) (fun c8 => ?_)
      · rw [if_pos c8] at h
        refine lv_iconst (v := 1) hx hb d_Mo_reckon_63 (by decide) ?_
        refine lv_goto (tgt := 68) hx hb d_Mo_reckon_64 (by decide) ?_
        refine lv_istore (lv' := [(7, .int 1), (0, va_rf v0), (1, .long v1), (3, .int v3), (4, .int v4), (5, .int v5), (6, .int v6)]) hx hb d_Mo_reckon_68 hl (by decide) rfl (fun ls hl => ?_)
        refine lv_iload hx hb d_Mo_reckon_70 (lv_at hl 0 rfl) ?_
        refine lv_if_eq (tgt := 103) hx hb d_Mo_reckon_72 (by decide) (fun c9 => ?_) (fun c9 => ?_)
        · exact absurd c9 (by decide)
        · refine lv_iload hx hb d_Mo_reckon_75 (lv_at hl 5 rfl) ?_
          refine lv_if_eq (tgt := 98) hx hb d_Mo_reckon_77 (by decide) (fun c10 => ?_) (fun c10 => ?_)
          · rw [if_pos c10] at h
            refine lv_iload hx hb d_Mo_reckon_98 (lv_at hl 6 rfl) ?_
            refine lv_goto (tgt := 105) hx hb d_Mo_reckon_100 (by decide) ?_
            refine lv_istore (lv' := [(5, .int v6), (7, .int 1), (0, va_rf v0), (1, .long v1), (3, .int v3), (4, .int v4), (6, .int v6)]) hx hb d_Mo_reckon_105 hl (by decide) rfl (fun ls hl => ?_)
            refine lv_iinc (v := (v6 + 1)) (lv' := [(6, .int ((v6 + 1))), (5, .int v6), (7, .int 1), (0, va_rf v0), (1, .long v1), (3, .int v3), (4, .int v4)]) hx hb d_Mo_reckon_107 hl (k := 6) rfl rfl (by decide) rfl (fun ls hl => ?_)
            refine lv_goto (tgt := 24) hx hb d_Mo_reckon_110 (by decide) ?_
            exact ih _ _ _ _ _ _ _ h _ _ _ (lv_sub hl [3, 4, 5, 6, 1, 0] rfl) hM hS
          · rw [if_neg c10] at h
            refine mx_aload_n hx hb d_Mo_reckon_80 rfl (lv_at hl 1 rfl) ?_
            obtain ⟨x11, e12, h⟩ := mx_b h
            refine mx_getr hx hb hts i_Mo hown hK hM e12 (ci := 4) (C := R_Mo) (T := T_Mo) (N := 23) rfl 4 (by decide) (hts _ wd_15) d_Mo_reckon_81 ?_
            refine lv_iload hx hb d_Mo_reckon_84 (lv_at hl 6 rfl) ?_
            obtain ⟨x13, e14, h⟩ := mx_b h
            refine mx_lald hx hb hK hM e14 rfl d_Mo_reckon_86 ?_
            refine mx_aload_n hx hb d_Mo_reckon_87 rfl (lv_at hl 1 rfl) ?_
            obtain ⟨x15, e16, h⟩ := mx_b h
            refine mx_getr hx hb hts i_Mo hown hK hM e16 (ci := 4) (C := R_Mo) (T := T_Mo) (N := 23) rfl 4 (by decide) (hts _ wd_15) d_Mo_reckon_88 ?_
            refine lv_iload hx hb d_Mo_reckon_91 (lv_at hl 5 rfl) ?_
            obtain ⟨x17, e18, h⟩ := mx_b h
            refine mx_lald hx hb hK hM e18 rfl d_Mo_reckon_93 ?_
            refine mx_lcmp_ge (tgt := 103) hx hb d_Mo_reckon_94 d_Mo_reckon_95 (by decide) (fun c19 => ?_) (fun c19 => ?_)
            · rw [if_pos c19] at h
              refine lv_iload hx hb d_Mo_reckon_103 (lv_at hl 5 rfl) ?_
              refine lv_istore (lv' := [(5, .int v5), (7, .int 1), (0, va_rf v0), (1, .long v1), (3, .int v3), (4, .int v4), (6, .int v6)]) hx hb d_Mo_reckon_105 hl (by decide) rfl (fun ls hl => ?_)
              refine lv_iinc (v := (v6 + 1)) (lv' := [(6, .int ((v6 + 1))), (5, .int v5), (7, .int 1), (0, va_rf v0), (1, .long v1), (3, .int v3), (4, .int v4)]) hx hb d_Mo_reckon_107 hl (k := 6) rfl rfl (by decide) rfl (fun ls hl => ?_)
              refine lv_goto (tgt := 24) hx hb d_Mo_reckon_110 (by decide) ?_
              exact ih _ _ _ _ _ _ _ h _ _ _ (lv_sub hl [3, 4, 5, 6, 1, 0] rfl) hM hS
            · rw [if_neg c19] at h
              refine lv_iload hx hb d_Mo_reckon_98 (lv_at hl 6 rfl) ?_
              refine lv_goto (tgt := 105) hx hb d_Mo_reckon_100 (by decide) ?_
              refine lv_istore (lv' := [(5, .int v6), (7, .int 1), (0, va_rf v0), (1, .long v1), (3, .int v3), (4, .int v4), (6, .int v6)]) hx hb d_Mo_reckon_105 hl (by decide) rfl (fun ls hl => ?_)
              refine lv_iinc (v := (v6 + 1)) (lv' := [(6, .int ((v6 + 1))), (5, .int v6), (7, .int 1), (0, va_rf v0), (1, .long v1), (3, .int v3), (4, .int v4)]) hx hb d_Mo_reckon_107 hl (k := 6) rfl rfl (by decide) rfl (fun ls hl => ?_)
              refine lv_goto (tgt := 24) hx hb d_Mo_reckon_110 (by decide) ?_
              exact ih _ _ _ _ _ _ _ h _ _ _ (lv_sub hl [3, 4, 5, 6, 1, 0] rfl) hM hS
      · rw [if_neg c8] at h
        refine mx_aload_n hx hb d_Mo_reckon_45 rfl (lv_at hl 0 rfl) ?_
        obtain ⟨x9, e10, h⟩ := mx_b h
        refine mx_getr hx hb hts i_Mo hown hK hM e10 (ci := 4) (C := R_Mo) (T := T_Mo) (N := 23) rfl 4 (by decide) (hts _ wd_15) d_Mo_reckon_46 ?_
        refine lv_iload hx hb d_Mo_reckon_49 (lv_at hl 5 rfl) ?_
        obtain ⟨x11, e12, h⟩ := mx_b h
        refine mx_lald hx hb hK hM e12 rfl d_Mo_reckon_51 ?_
        refine lv_lload_n hx hb d_Mo_reckon_52 rfl (lv_at hl 1 rfl) ?_
        refine mx_lcmp_ne (tgt := 67) hx hb d_Mo_reckon_53 d_Mo_reckon_54 (by decide) (fun c13 => ?_) (fun c13 => ?_)
        · rw [if_neg c13] at h
          refine lv_iconst (v := 0) hx hb d_Mo_reckon_67 (by decide) ?_
          refine lv_istore (lv' := [(7, .int 0), (0, va_rf v0), (1, .long v1), (3, .int v3), (4, .int v4), (5, .int v5), (6, .int v6)]) hx hb d_Mo_reckon_68 hl (by decide) rfl (fun ls hl => ?_)
          refine lv_iload hx hb d_Mo_reckon_70 (lv_at hl 0 rfl) ?_
          refine lv_if_eq (tgt := 103) hx hb d_Mo_reckon_72 (by decide) (fun c14 => ?_) (fun c14 => ?_)
          · refine lv_iload hx hb d_Mo_reckon_103 (lv_at hl 5 rfl) ?_
            refine lv_istore (lv' := [(5, .int v5), (7, .int 0), (0, va_rf v0), (1, .long v1), (3, .int v3), (4, .int v4), (6, .int v6)]) hx hb d_Mo_reckon_105 hl (by decide) rfl (fun ls hl => ?_)
            refine lv_iinc (v := (v6 + 1)) (lv' := [(6, .int ((v6 + 1))), (5, .int v5), (7, .int 0), (0, va_rf v0), (1, .long v1), (3, .int v3), (4, .int v4)]) hx hb d_Mo_reckon_107 hl (k := 6) rfl rfl (by decide) rfl (fun ls hl => ?_)
            refine lv_goto (tgt := 24) hx hb d_Mo_reckon_110 (by decide) ?_
            exact ih _ _ _ _ _ _ _ h _ _ _ (lv_sub hl [3, 4, 5, 6, 1, 0] rfl) hM hS
          · exact absurd c14 (by decide)
        · rw [if_pos c13] at h
          refine lv_iload hx hb d_Mo_reckon_57 (lv_at hl 5 rfl) ?_
          refine lv_iload_n hx hb d_Mo_reckon_59 rfl (lv_at hl 2 rfl) ?_
          refine lv_icmp_le (tgt := 67) hx hb d_Mo_reckon_60 (by decide) (fun c14 => ?_) (fun c14 => ?_)
          · rw [if_pos c14] at h
            refine lv_iconst (v := 0) hx hb d_Mo_reckon_67 (by decide) ?_
            refine lv_istore (lv' := [(7, .int 0), (0, va_rf v0), (1, .long v1), (3, .int v3), (4, .int v4), (5, .int v5), (6, .int v6)]) hx hb d_Mo_reckon_68 hl (by decide) rfl (fun ls hl => ?_)
            refine lv_iload hx hb d_Mo_reckon_70 (lv_at hl 0 rfl) ?_
            refine lv_if_eq (tgt := 103) hx hb d_Mo_reckon_72 (by decide) (fun c15 => ?_) (fun c15 => ?_)
            · refine lv_iload hx hb d_Mo_reckon_103 (lv_at hl 5 rfl) ?_
              refine lv_istore (lv' := [(5, .int v5), (7, .int 0), (0, va_rf v0), (1, .long v1), (3, .int v3), (4, .int v4), (6, .int v6)]) hx hb d_Mo_reckon_105 hl (by decide) rfl (fun ls hl => ?_)
              refine lv_iinc (v := (v6 + 1)) (lv' := [(6, .int ((v6 + 1))), (5, .int v5), (7, .int 0), (0, va_rf v0), (1, .long v1), (3, .int v3), (4, .int v4)]) hx hb d_Mo_reckon_107 hl (k := 6) rfl rfl (by decide) rfl (fun ls hl => ?_)
              refine lv_goto (tgt := 24) hx hb d_Mo_reckon_110 (by decide) ?_
              exact ih _ _ _ _ _ _ _ h _ _ _ (lv_sub hl [3, 4, 5, 6, 1, 0] rfl) hM hS
            · exact absurd c15 (by decide)
          · rw [if_neg c14] at h
            refine lv_iconst (v := 1) hx hb d_Mo_reckon_63 (by decide) ?_
            refine lv_goto (tgt := 68) hx hb d_Mo_reckon_64 (by decide) ?_
            refine lv_istore (lv' := [(7, .int 1), (0, va_rf v0), (1, .long v1), (3, .int v3), (4, .int v4), (5, .int v5), (6, .int v6)]) hx hb d_Mo_reckon_68 hl (by decide) rfl (fun ls hl => ?_)
            refine lv_iload hx hb d_Mo_reckon_70 (lv_at hl 0 rfl) ?_
            refine lv_if_eq (tgt := 103) hx hb d_Mo_reckon_72 (by decide) (fun c15 => ?_) (fun c15 => ?_)
            · exact absurd c15 (by decide)
            · refine lv_iload hx hb d_Mo_reckon_75 (lv_at hl 5 rfl) ?_
              refine lv_if_eq (tgt := 98) hx hb d_Mo_reckon_77 (by decide) (fun c16 => ?_) (fun c16 => ?_)
              · rw [if_pos c16] at h
                refine lv_iload hx hb d_Mo_reckon_98 (lv_at hl 6 rfl) ?_
                refine lv_goto (tgt := 105) hx hb d_Mo_reckon_100 (by decide) ?_
                refine lv_istore (lv' := [(5, .int v6), (7, .int 1), (0, va_rf v0), (1, .long v1), (3, .int v3), (4, .int v4), (6, .int v6)]) hx hb d_Mo_reckon_105 hl (by decide) rfl (fun ls hl => ?_)
                refine lv_iinc (v := (v6 + 1)) (lv' := [(6, .int ((v6 + 1))), (5, .int v6), (7, .int 1), (0, va_rf v0), (1, .long v1), (3, .int v3), (4, .int v4)]) hx hb d_Mo_reckon_107 hl (k := 6) rfl rfl (by decide) rfl (fun ls hl => ?_)
                refine lv_goto (tgt := 24) hx hb d_Mo_reckon_110 (by decide) ?_
                exact ih _ _ _ _ _ _ _ h _ _ _ (lv_sub hl [3, 4, 5, 6, 1, 0] rfl) hM hS
              · rw [if_neg c16] at h
                refine mx_aload_n hx hb d_Mo_reckon_80 rfl (lv_at hl 1 rfl) ?_
                obtain ⟨x17, e18, h⟩ := mx_b h
                refine mx_getr hx hb hts i_Mo hown hK hM e18 (ci := 4) (C := R_Mo) (T := T_Mo) (N := 23) rfl 4 (by decide) (hts _ wd_15) d_Mo_reckon_81 ?_
                refine lv_iload hx hb d_Mo_reckon_84 (lv_at hl 6 rfl) ?_
                obtain ⟨x19, e20, h⟩ := mx_b h
                refine mx_lald hx hb hK hM e20 rfl d_Mo_reckon_86 ?_
                refine mx_aload_n hx hb d_Mo_reckon_87 rfl (lv_at hl 1 rfl) ?_
                obtain ⟨x21, e22, h⟩ := mx_b h
                refine mx_getr hx hb hts i_Mo hown hK hM e22 (ci := 4) (C := R_Mo) (T := T_Mo) (N := 23) rfl 4 (by decide) (hts _ wd_15) d_Mo_reckon_88 ?_
                refine lv_iload hx hb d_Mo_reckon_91 (lv_at hl 5 rfl) ?_
                obtain ⟨x23, e24, h⟩ := mx_b h
                refine mx_lald hx hb hK hM e24 rfl d_Mo_reckon_93 ?_
                refine mx_lcmp_ge (tgt := 103) hx hb d_Mo_reckon_94 d_Mo_reckon_95 (by decide) (fun c25 => ?_) (fun c25 => ?_)
                · rw [if_pos c25] at h
                  refine lv_iload hx hb d_Mo_reckon_103 (lv_at hl 5 rfl) ?_
                  refine lv_istore (lv' := [(5, .int v5), (7, .int 1), (0, va_rf v0), (1, .long v1), (3, .int v3), (4, .int v4), (6, .int v6)]) hx hb d_Mo_reckon_105 hl (by decide) rfl (fun ls hl => ?_)
                  refine lv_iinc (v := (v6 + 1)) (lv' := [(6, .int ((v6 + 1))), (5, .int v5), (7, .int 1), (0, va_rf v0), (1, .long v1), (3, .int v3), (4, .int v4)]) hx hb d_Mo_reckon_107 hl (k := 6) rfl rfl (by decide) rfl (fun ls hl => ?_)
                  refine lv_goto (tgt := 24) hx hb d_Mo_reckon_110 (by decide) ?_
                  exact ih _ _ _ _ _ _ _ h _ _ _ (lv_sub hl [3, 4, 5, 6, 1, 0] rfl) hM hS
                · rw [if_neg c25] at h
                  refine lv_iload hx hb d_Mo_reckon_98 (lv_at hl 6 rfl) ?_
                  refine lv_goto (tgt := 105) hx hb d_Mo_reckon_100 (by decide) ?_
                  refine lv_istore (lv' := [(5, .int v6), (7, .int 1), (0, va_rf v0), (1, .long v1), (3, .int v3), (4, .int v4), (6, .int v6)]) hx hb d_Mo_reckon_105 hl (by decide) rfl (fun ls hl => ?_)
                  refine lv_iinc (v := (v6 + 1)) (lv' := [(6, .int ((v6 + 1))), (5, .int v6), (7, .int 1), (0, va_rf v0), (1, .long v1), (3, .int v3), (4, .int v4)]) hx hb d_Mo_reckon_107 hl (k := 6) rfl rfl (by decide) rfl (fun ls hl => ?_)
                  refine lv_goto (tgt := 24) hx hb d_Mo_reckon_110 (by decide) ?_
                  exact ih _ _ _ _ _ _ _ h _ _ _ (lv_sub hl [3, 4, 5, 6, 1, 0] rfl) hM hS
set_option maxHeartbeats 4000000 in
set_option maxRecDepth 100000 in
theorem wfl_Mo_reckon_9 {p : Program} {l : Launch} {e : Env} {R : Room} {s : State} {m : MethodId} {args : Array Value} {below : List Frame} {meth : Method} {c : Code} {G : mx_G} (q : mx_Mem) (CX : gq_C p R s m args meth c G b_Mo_reckon 8 none R_Mo 2 0 0 49) {k0 : Option Nat → mx_Mem → Option (mx_Mem)} (hk0 : ∀ (v0 : Option Nat) (mem : mx_Mem), k0 v0 mem = some q → ∀ (H : Heap) (locs : List Loc) (ls : Array Slot), lv_has ls 8 [(0, va_rf v0)] → mx_M vwCl G mem H → va_S (mx_A G) s.heap H locs → W p l e R s m args below meth c H locs 0 0 (MQ below (gq_Q G none q) args s 0 0 (mx_A G)) (F0 m 136 ls [])) : ∀ (n : Nat) (v0 : Option Nat) (v1 : Int64) (v3 : Int32) (v4 : Int32) (mem : mx_Mem), fl_Mo_reckon_9 k0 n v0 v1 v3 v4 mem = some q → ∀ (H : Heap) (locs : List Loc) (ls : Array Slot), lv_has ls 8 [(0, va_rf v0), (1, .long v1), (3, .int v3), (4, .int v4)] → mx_M vwCl G mem H → va_S (mx_A G) s.heap H locs → W p l e R s m args below meth c H locs 0 0 (MQ below (gq_Q G none q) args s 0 0 (mx_A G)) (F0 m 9 ls []) := by
  obtain ⟨hx, hb, hml, hr, hown, hts, hlocks, hK, hN, hb0, hRf, hRc, hRs, hRl⟩ := id CX
  intro n
  induction n with
  | zero => intro v0 v1 v3 v4 mem h; rw [fl_Mo_reckon_9] at h; cases h
  | succ n ih =>
    intro v0 v1 v3 v4 mem h H locs ls hl hM hS
    rw [fl_Mo_reckon_9] at h
    refine lv_iload hx hb d_Mo_reckon_9 (lv_at hl 3 rfl) ?_
    refine mx_aload_n hx hb d_Mo_reckon_11 rfl (lv_at hl 0 rfl) ?_
    obtain ⟨x1, e2, h⟩ := mx_b h
    refine mx_geti hx hb hts i_Mo hown hK hM e2 (ci := 4) (C := R_Mo) (T := T_Mo) (N := 23) rfl 1 (by decide) (hts _ wd_116) d_Mo_reckon_12 ?_
    refine lv_icmp_ge (tgt := 136) hx hb d_Mo_reckon_15 (by decide) (fun c3 => ?_) (fun c3 => ?_)
    · rw [if_pos c3] at h
      exact hk0 _ _ h _ _ _ (lv_sub hl [0] rfl) hM hS
    · rw [if_neg c3] at h
      refine lv_iconst (v := 0) hx hb d_Mo_reckon_18 (by decide) ?_
      refine lv_istore (lv' := [(5, .int 0), (0, va_rf v0), (1, .long v1), (3, .int v3), (4, .int v4)]) hx hb d_Mo_reckon_19 hl (by decide) rfl (fun ls hl => ?_)
      refine lv_iconst (v := 1) hx hb d_Mo_reckon_21 (by decide) ?_
      refine lv_istore (lv' := [(6, .int 1), (5, .int 0), (0, va_rf v0), (1, .long v1), (3, .int v3), (4, .int v4)]) hx hb d_Mo_reckon_22 hl (by decide) rfl (fun ls hl => ?_)
      refine wfl_Mo_reckon_24 q CX ?_ 5000 _ _ _ _ _ _ _ h _ _ _ (lv_sub hl [2, 3, 4, 5, 1, 0] rfl) hM hS
      · intro v0 v4 v5 m4 h H locs ls hl hM hS
        refine mx_aload_n hx hb d_Mo_reckon_113 rfl (lv_at hl 0 rfl) ?_
        obtain ⟨x5, e6, h⟩ := mx_b h
        refine mx_getr hx hb hts i_Mo hown hK hM e6 (ci := 4) (C := R_Mo) (T := T_Mo) (N := 23) rfl 4 (by decide) (hts _ wd_15) d_Mo_reckon_114 ?_
        refine lv_iload hx hb d_Mo_reckon_117 (lv_at hl 2 rfl) ?_
        obtain ⟨x7, e8, h⟩ := mx_b h
        refine mx_lald hx hb hK hM e8 rfl d_Mo_reckon_119 ?_
        refine lv_lstore_n (lv' := [(1, .long x7), (0, va_rf v0), (4, .int v4), (5, .int v5)]) hx hb d_Mo_reckon_120 rfl hl (by decide) (by simp [mx_cat, mx_cati, mx_catl, mx_catr]) (fun ls hl => ?_)
        refine lv_iload hx hb d_Mo_reckon_121 (lv_at hl 3 rfl) ?_
        refine lv_istore_n (lv' := [(3, .int v5), (1, .long x7), (0, va_rf v0), (4, .int v4), (5, .int v5)]) hx hb d_Mo_reckon_123 rfl hl (by decide) rfl (fun ls hl => ?_)
        refine mx_aload_n hx hb d_Mo_reckon_124 rfl (lv_at hl 2 rfl) ?_
        refine lv_iload hx hb d_Mo_reckon_125 (lv_at hl 4 rfl) ?_
        obtain ⟨a12, e11, h⟩ := mx_b h
        obtain ⟨q9, e10, h⟩ := mx_b h
        have e13 := mx_c_eq e11
        refine W.eq (g2 := F0 m 127 ls [.int v5, .ref a12]) (congrArg (fun z => F0 m 127 ls [.int v5, va_rf z]) e13) ?_
        refine gq_go (va_runV (b := a12) (As := [.int v5]) (rest := []) ⟨hx, hb, hml, hown, hts⟩ (c_Mo_depart l G a12 v5 _ _ e10) (cwV 1 hts (gq_gV wd_202 wd_203 wd_204 wd_114 wd_201) rfl rfl rfl (by decide +kernel) ⟨Nat.le_trans (Nat.le_of_ble_eq_true rfl) hRf, Nat.le_trans (Nat.le_of_ble_eq_true rfl) hRl⟩) (gq_preV hK hN hM hS hb0 e11 (C := R_Mo) (T := T_Mo) (N := 23) rfl) rfl rfl hl.1 rfl (lv_room (Nat.le_of_ble_eq_true rfl)) d_Mo_reckon_127 ⟨Nat.le_trans (Nat.le_of_ble_eq_true rfl) hRc, Nat.le_trans (Nat.le_of_ble_eq_true rfl) hRs⟩) hS (fun H locs hM hS => ?_)
        refine W.eq (g2 := F0 m 130 ls []) rfl ?_
        refine lv_iinc (v := (v4 + 1)) (lv' := [(4, .int ((v4 + 1))), (3, .int v5), (1, .long x7), (0, va_rf v0), (5, .int v5)]) hx hb d_Mo_reckon_130 hl (k := 3) rfl rfl (by decide) rfl (fun ls hl => ?_)
        refine lv_goto (tgt := 9) hx hb d_Mo_reckon_133 (by decide) ?_
        exact ih _ _ _ _ _ h _ _ _ (lv_sub hl [3, 2, 1, 0] rfl) hM hS
set_option maxHeartbeats 4000000 in
set_option maxRecDepth 100000 in
theorem wfl_Mo_reckon_139 {p : Program} {l : Launch} {e : Env} {R : Room} {s : State} {m : MethodId} {args : Array Value} {below : List Frame} {meth : Method} {c : Code} {G : mx_G} (q : mx_Mem) (CX : gq_C p R s m args meth c G b_Mo_reckon 8 none R_Mo 2 0 0 49)  : ∀ (n : Nat) (v0 : Option Nat) (v4 : Int32) (mem : mx_Mem), fl_Mo_reckon_139  n v0 v4 mem = some q → ∀ (H : Heap) (locs : List Loc) (ls : Array Slot), lv_has ls 8 [(0, va_rf v0), (4, .int v4)] → mx_M vwCl G mem H → va_S (mx_A G) s.heap H locs → W p l e R s m args below meth c H locs 0 0 (MQ below (gq_Q G none q) args s 0 0 (mx_A G)) (F0 m 139 ls []) := by
  obtain ⟨hx, hb, hml, hr, hown, hts, hlocks, hK, hN, hb0, hRf, hRc, hRs, hRl⟩ := id CX
  intro n
  induction n with
  | zero => intro v0 v4 mem h; rw [fl_Mo_reckon_139] at h; cases h
  | succ n ih =>
    intro v0 v4 mem h H locs ls hl hM hS
    rw [fl_Mo_reckon_139] at h
    refine lv_iload hx hb d_Mo_reckon_139 (lv_at hl 1 rfl) ?_
    refine mx_aload_n hx hb d_Mo_reckon_141 rfl (lv_at hl 0 rfl) ?_
    obtain ⟨x1, e2, h⟩ := mx_b h
    refine mx_geti hx hb hts i_Mo hown hK hM e2 (ci := 4) (C := R_Mo) (T := T_Mo) (N := 23) rfl 9 (by decide) (hts _ wd_142) d_Mo_reckon_142 ?_
    refine lv_icmp_gt (tgt := 160) hx hb d_Mo_reckon_145 (by decide) (fun c3 => ?_) (fun c3 => ?_)
    · rw [if_pos c3] at h
      cases h
      exact W.vret hx hb hr (fun t ht hW => ⟨⟨rfl, by rw [ht]; exact hM⟩, hS.F ht⟩) hS.2.2 d_Mo_reckon_160
    · rw [if_neg c3] at h
      refine mx_aload_n hx hb d_Mo_reckon_148 rfl (lv_at hl 0 rfl) ?_
      refine lv_iload hx hb d_Mo_reckon_149 (lv_at hl 1 rfl) ?_
      obtain ⟨a7, e6, h⟩ := mx_b h
      obtain ⟨q4, e5, h⟩ := mx_b h
      have e8 := mx_c_eq e6
      refine W.eq (g2 := F0 m 151 ls [.int v4, .ref a7]) (congrArg (fun z => F0 m 151 ls [.int v4, va_rf z]) e8) ?_
      refine gq_go (va_runV (b := a7) (As := [.int v4]) (rest := []) ⟨hx, hb, hml, hown, hts⟩ (c_Mo_arrive l G a7 v4 _ _ e5) (cwV 1 hts (gq_gV wd_206 wd_207 wd_208 wd_114 wd_205) rfl rfl rfl (by decide +kernel) ⟨Nat.le_trans (Nat.le_of_ble_eq_true rfl) hRf, Nat.le_trans (Nat.le_of_ble_eq_true rfl) hRl⟩) (gq_preV hK hN hM hS hb0 e6 (C := R_Mo) (T := T_Mo) (N := 23) rfl) rfl rfl hl.1 rfl (lv_room (Nat.le_of_ble_eq_true rfl)) d_Mo_reckon_151 ⟨Nat.le_trans (Nat.le_of_ble_eq_true rfl) hRc, Nat.le_trans (Nat.le_of_ble_eq_true rfl) hRs⟩) hS (fun H locs hM hS => ?_)
      refine W.eq (g2 := F0 m 154 ls []) rfl ?_
      refine lv_iinc (v := (v4 + 1)) (lv' := [(4, .int ((v4 + 1))), (0, va_rf v0)]) hx hb d_Mo_reckon_154 hl (k := 1) rfl rfl (by decide) rfl (fun ls hl => ?_)
      refine lv_goto (tgt := 139) hx hb d_Mo_reckon_157 (by decide) ?_
      exact ih _ _ _ h _ _ _ (lv_sub hl [1, 0] rfl) hM hS
set_option maxHeartbeats 4000000 in
set_option maxRecDepth 100000 in
theorem c_Mo_reckon (l : Launch) (G : mx_G) (a0 : Nat) (mem : mx_Mem) (q : mx_Mem) (h : f_Mo_reckon a0 mem = some q) : Met l y_Mo_reckon (gq_w y_Mo_reckon b_Mo_reckon 8 none) { frames := 2, cells := 0, slots := 0, locals := 49 } (gq_P G [.ref a0] mem) (gq_Q G none q) 0 0 (mx_A G) := by
  refine Met.ofW (cc := b_Mo_reckon) (maxL := 8) (ret := none) (by decide) rfl ?_
  intro p e s m args below meth c s₁ B hml hv
  obtain ⟨rfl, hb0, hM, hK, hN⟩ := hv
  have CX : gq_C p (headSpec (gq_w y_Mo_reckon b_Mo_reckon 8 none) { frames := 2, cells := 0, slots := 0, locals := 49 }).room s m _ meth c G b_Mo_reckon 8 none R_Mo 2 0 0 49 := ⟨B.exec, B.bytes, hml, B.returns, findClass_of_methodNamed B.named, fun w hw => atoms_spec (ws := gq_w y_Mo_reckon b_Mo_reckon 8 none) B.pre w (List.mem_cons_of_mem _ hw), B.notSynchronized, hK, hN, hb0, Nat.le_refl _, Nat.le_refl _, Nat.le_refl _, Nat.le_refl _⟩
  obtain ⟨hx, hb, hml, hr, hown, hts, hlocks, hK, hN, hb0, hRf, hRc, hRs, hRl⟩ := id CX
  have hS : va_S (mx_A G) s.heap s.heap [] := va_S.rf
  have hl := lv_entry [.ref a0] (n := 8) (Nat.le_of_ble_eq_true rfl)
  rw [lg_entry_eq]
  generalize (lg_sl [.ref a0] ++ List.replicate (8 - (lg_sl [.ref a0]).length) Slot.unset).toArray = ls at hl ⊢
  have hl : lv_has ls 8 [(0, va_rf (some a0))] := hl
  unfold f_Mo_reckon at h
  refine lv_ldc2 (v := (-1)) hx hb hown (hts _ wd_200) d_Mo_reckon_0 ?_
  refine lv_lstore_n (lv' := [(1, .long (-1)), (0, va_rf (some a0))]) hx hb d_Mo_reckon_3 rfl hl (by decide) (by simp [mx_cat, mx_cati, mx_catl, mx_catr]) (fun ls hl => ?_)
  refine lv_iconst (v := 0) hx hb d_Mo_reckon_4 (by decide) ?_
  refine lv_istore_n (lv' := [(3, .int 0), (1, .long (-1)), (0, va_rf (some a0))]) hx hb d_Mo_reckon_5 rfl hl (by decide) rfl (fun ls hl => ?_)
  refine lv_iconst (v := 0) hx hb d_Mo_reckon_6 (by decide) ?_
  refine lv_istore (lv' := [(4, .int 0), (3, .int 0), (1, .long (-1)), (0, va_rf (some a0))]) hx hb d_Mo_reckon_7 hl (by decide) rfl (fun ls hl => ?_)
  refine wfl_Mo_reckon_9 q CX ?_ 5000 _ _ _ _ _ h _ _ _ (lv_sub hl [3, 2, 1, 0] rfl) hM hS
  · intro v0 m1 h H locs ls hl hM hS
    refine lv_iconst (v := 1) hx hb d_Mo_reckon_136 (by decide) ?_
    refine lv_istore (lv' := [(4, .int 1), (0, va_rf v0)]) hx hb d_Mo_reckon_137 hl (by decide) rfl (fun ls hl => ?_)
    refine wfl_Mo_reckon_139 q CX  5000 _ _ _ h _ _ _ (lv_sub hl [1, 0] rfl) hM hS
set_option maxHeartbeats 4000000 in
set_option maxRecDepth 100000 in
theorem wfl_Mo_late_47 {p : Program} {l : Launch} {e : Env} {R : Room} {s : State} {m : MethodId} {args : Array Value} {below : List Frame} {meth : Method} {c : Code} {G : mx_G} (q : Int32 × mx_Mem) (CX : gq_C p R s m args meth c G b_Mo_late 6 (some .int) R_Mo 3 0 0 76)  : ∀ (n : Nat) (v0 : Option Nat) (v4 : Int32) (v5 : Int32) (mem : mx_Mem), fl_Mo_late_47  n v0 v4 v5 mem = some q → ∀ (H : Heap) (locs : List Loc) (ls : Array Slot), lv_has ls 6 [(0, va_rf v0), (4, .int v4), (5, .int v5)] → mx_M vwCl G mem H → va_S (mx_A G) s.heap H locs → W p l e R s m args below meth c H locs 0 0 (MQ below (gq_Q G (some (.int q.1)) q.2) args s 0 0 (mx_A G)) (F0 m 47 ls []) := by
  obtain ⟨hx, hb, hml, hr, hown, hts, hlocks, hK, hN, hb0, hRf, hRc, hRs, hRl⟩ := id CX
  intro n
  induction n with
  | zero => intro v0 v4 v5 mem h; rw [fl_Mo_late_47] at h; cases h
  | succ n ih =>
    intro v0 v4 v5 mem h H locs ls hl hM hS
    rw [fl_Mo_late_47] at h
    refine lv_iload hx hb d_Mo_late_47 (lv_at hl 2 rfl) ?_
    refine mx_aload_n hx hb d_Mo_late_49 rfl (lv_at hl 0 rfl) ?_
    obtain ⟨x1, e2, h⟩ := mx_b h
    refine mx_geti hx hb hts i_Mo hown hK hM e2 (ci := 4) (C := R_Mo) (T := T_Mo) (N := 23) rfl 9 (by decide) (hts _ wd_142) d_Mo_late_50 ?_
    refine lv_icmp_gt (tgt := 100) hx hb d_Mo_late_53 (by decide) (fun c3 => ?_) (fun c3 => ?_)
    · rw [if_pos c3] at h
      refine lv_iload hx hb d_Mo_late_100 (lv_at hl 1 rfl) ?_
      cases h
      exact W.iret hx hb hr (fun t ht hW => ⟨⟨rfl, by rw [ht]; exact hM⟩, hS.F ht⟩) hS.2.2 d_Mo_late_102
    · rw [if_neg c3] at h
      refine lv_iload hx hb d_Mo_late_56 (lv_at hl 1 rfl) ?_
      refine mx_aload_n hx hb d_Mo_late_58 rfl (lv_at hl 0 rfl) ?_
      obtain ⟨x4, e5, h⟩ := mx_b h
      refine mx_getr hx hb hts i_Mo hown hK hM e5 (ci := 4) (C := R_Mo) (T := T_Mo) (N := 23) rfl 20 (by decide) (hts _ wd_31) d_Mo_late_59 ?_
      refine lv_iload hx hb d_Mo_late_62 (lv_at hl 2 rfl) ?_
      obtain ⟨x6, e7, h⟩ := mx_b h
      refine mx_bald hx hb hK hM e7 rfl d_Mo_late_64 ?_
      refine lv_if_ne (tgt := 86) hx hb d_Mo_late_65 (by decide) (fun c8 => ?_) (fun c8 => ?_)
      · rw [if_neg c8] at h
        refine lv_iconst (v := 1) hx hb d_Mo_late_86 (by decide) ?_
        refine lv_goto (tgt := 91) hx hb d_Mo_late_87 (by decide) ?_
        refine lv_iadd hx hb d_Mo_late_91 ?_
        refine lv_istore (lv' := [(4, .int ((v4 + 1))), (0, va_rf v0), (5, .int v5)]) hx hb d_Mo_late_92 hl (by decide) rfl (fun ls hl => ?_)
        refine lv_iinc (v := (v5 + 1)) (lv' := [(5, .int ((v5 + 1))), (4, .int ((v4 + 1))), (0, va_rf v0)]) hx hb d_Mo_late_94 hl (k := 2) rfl rfl (by decide) rfl (fun ls hl => ?_)
        refine lv_goto (tgt := 47) hx hb d_Mo_late_97 (by decide) ?_
        exact ih _ _ _ _ h _ _ _ (lv_sub hl [2, 1, 0] rfl) hM hS
      · rw [if_pos c8] at h
        refine mx_aload_n hx hb d_Mo_late_68 rfl (lv_at hl 0 rfl) ?_
        obtain ⟨x9, e10, h⟩ := mx_b h
        refine mx_getr hx hb hts i_Mo hown hK hM e10 (ci := 4) (C := R_Mo) (T := T_Mo) (N := 23) rfl 19 (by decide) (hts _ wd_29) d_Mo_late_69 ?_
        refine lv_iload hx hb d_Mo_late_72 (lv_at hl 2 rfl) ?_
        obtain ⟨x11, e12, h⟩ := mx_b h
        refine mx_lald hx hb hK hM e12 rfl d_Mo_late_74 ?_
        refine mx_aload_n hx hb d_Mo_late_75 rfl (lv_at hl 0 rfl) ?_
        obtain ⟨x13, e14, h⟩ := mx_b h
        refine mx_getr hx hb hts i_Mo hown hK hM e14 (ci := 4) (C := R_Mo) (T := T_Mo) (N := 23) rfl 12 (by decide) (hts _ wd_22) d_Mo_late_76 ?_
        refine lv_iload hx hb d_Mo_late_79 (lv_at hl 2 rfl) ?_
        obtain ⟨x15, e16, h⟩ := mx_b h
        refine mx_lald hx hb hK hM e16 rfl d_Mo_late_81 ?_
        refine mx_lcmp_le (tgt := 90) hx hb d_Mo_late_82 d_Mo_late_83 (by decide) (fun c17 => ?_) (fun c17 => ?_)
        · rw [if_pos c17] at h
          refine lv_iconst (v := 0) hx hb d_Mo_late_90 (by decide) ?_
          refine lv_iadd hx hb d_Mo_late_91 ?_
          refine lv_istore (lv' := [(4, .int ((v4 + 0))), (0, va_rf v0), (5, .int v5)]) hx hb d_Mo_late_92 hl (by decide) rfl (fun ls hl => ?_)
          refine lv_iinc (v := (v5 + 1)) (lv' := [(5, .int ((v5 + 1))), (4, .int ((v4 + 0))), (0, va_rf v0)]) hx hb d_Mo_late_94 hl (k := 2) rfl rfl (by decide) rfl (fun ls hl => ?_)
          refine lv_goto (tgt := 47) hx hb d_Mo_late_97 (by decide) ?_
          exact ih _ _ _ _ h _ _ _ (lv_sub hl [2, 1, 0] rfl) hM hS
        · rw [if_neg c17] at h
          refine lv_iconst (v := 1) hx hb d_Mo_late_86 (by decide) ?_
          refine lv_goto (tgt := 91) hx hb d_Mo_late_87 (by decide) ?_
          refine lv_iadd hx hb d_Mo_late_91 ?_
          refine lv_istore (lv' := [(4, .int ((v4 + 1))), (0, va_rf v0), (5, .int v5)]) hx hb d_Mo_late_92 hl (by decide) rfl (fun ls hl => ?_)
          refine lv_iinc (v := (v5 + 1)) (lv' := [(5, .int ((v5 + 1))), (4, .int ((v4 + 1))), (0, va_rf v0)]) hx hb d_Mo_late_94 hl (k := 2) rfl rfl (by decide) rfl (fun ls hl => ?_)
          refine lv_goto (tgt := 47) hx hb d_Mo_late_97 (by decide) ?_
          exact ih _ _ _ _ h _ _ _ (lv_sub hl [2, 1, 0] rfl) hM hS
set_option maxHeartbeats 4000000 in
set_option maxRecDepth 100000 in
theorem c_Mo_late (l : Launch) (G : mx_G) (a0 : Nat) (v1 : Int32) (v2 : Int64) (mem : mx_Mem) (q : Int32 × mx_Mem) (h : f_Mo_late a0 v1 v2 mem = some q) : Met l y_Mo_late (gq_w y_Mo_late b_Mo_late 6 (some .int)) { frames := 3, cells := 0, slots := 0, locals := 76 } (gq_P G [.ref a0, .int v1, .long v2] mem) (gq_Q G (some (.int q.1)) q.2) 0 0 (mx_A G) := by
  refine Met.ofW (cc := b_Mo_late) (maxL := 6) (ret := (some .int)) (by decide) rfl ?_
  intro p e s m args below meth c s₁ B hml hv
  obtain ⟨rfl, hb0, hM, hK, hN⟩ := hv
  have CX : gq_C p (headSpec (gq_w y_Mo_late b_Mo_late 6 (some .int)) { frames := 3, cells := 0, slots := 0, locals := 76 }).room s m _ meth c G b_Mo_late 6 (some .int) R_Mo 3 0 0 76 := ⟨B.exec, B.bytes, hml, B.returns, findClass_of_methodNamed B.named, fun w hw => atoms_spec (ws := gq_w y_Mo_late b_Mo_late 6 (some .int)) B.pre w (List.mem_cons_of_mem _ hw), B.notSynchronized, hK, hN, hb0, Nat.le_refl _, Nat.le_refl _, Nat.le_refl _, Nat.le_refl _⟩
  obtain ⟨hx, hb, hml, hr, hown, hts, hlocks, hK, hN, hb0, hRf, hRc, hRs, hRl⟩ := id CX
  have hS : va_S (mx_A G) s.heap s.heap [] := va_S.rf
  have hl := lv_entry [.ref a0, .int v1, .long v2] (n := 6) (Nat.le_of_ble_eq_true rfl)
  rw [lg_entry_eq]
  generalize (lg_sl [.ref a0, .int v1, .long v2] ++ List.replicate (6 - (lg_sl [.ref a0, .int v1, .long v2]).length) Slot.unset).toArray = ls at hl ⊢
  have hl : lv_has ls 6 [(0, va_rf (some a0)), (1, .int v1), (2, .long v2)] := hl
  unfold f_Mo_late at h
  refine mx_aload_n hx hb d_Mo_late_0 rfl (lv_at hl 0 rfl) ?_
  refine lv_iconst (v := 0) hx hb d_Mo_late_1 (by decide) ?_
  obtain ⟨m1, e2, h⟩ := mx_b h
  refine mx_put hx hb hts i_Mo t_Mo t_Mo_ok n_Mo hown hK hM hS e2 (ci := 4) (C := R_Mo) (T := T_Mo) (N := 23) rfl 0 (by decide) (hts _ wd_109) rfl (ty := .int) (by decide +kernel) rfl rfl d_Mo_late_2 (fun H locs hM hS => ?_)
  refine mx_aload_n hx hb d_Mo_late_5 rfl (lv_at hl 0 rfl) ?_
  refine lv_iload_n hx hb d_Mo_late_6 rfl (lv_at hl 1 rfl) ?_
  obtain ⟨a6, e5, h⟩ := mx_b h
  obtain ⟨q3, e4, h⟩ := mx_b h
  have e7 := mx_c_eq e5
  refine W.eq (g2 := F0 m 7 ls [.int v1, .ref a6]) (congrArg (fun z => F0 m 7 ls [.int v1, va_rf z]) e7) ?_
  refine gq_go (va_runV (b := a6) (As := [.int v1]) (rest := []) ⟨hx, hb, hml, hown, hts⟩ (c_Mo_isLine l G a6 v1 _ _ e4) (cwV 1 hts (gq_gV wd_137 wd_138 wd_139 wd_114 wd_136) rfl rfl rfl (by decide +kernel) ⟨Nat.le_trans (Nat.le_of_ble_eq_true rfl) hRf, Nat.le_trans (Nat.le_of_ble_eq_true rfl) hRl⟩) (gq_preV hK hN hM hS hb0 e5 (C := R_Mo) (T := T_Mo) (N := 23) rfl) rfl rfl hl.1 rfl (lv_room (Nat.le_of_ble_eq_true rfl)) d_Mo_late_7 ⟨Nat.le_trans (Nat.le_of_ble_eq_true rfl) hRc, Nat.le_trans (Nat.le_of_ble_eq_true rfl) hRs⟩) hS (fun H locs hM hS => ?_)
  refine W.eq (g2 := F0 m 10 ls [.int q3.1]) rfl ?_
  refine lv_if_ne (tgt := 16) hx hb d_Mo_late_10 (by decide) (fun c8 => ?_) (fun c8 => ?_)
  · rw [if_neg c8] at h
    refine lv_lload_n hx hb d_Mo_late_16 rfl (lv_at hl 2 rfl) ?_
    refine lv_lconst (v := 0) hx hb d_Mo_late_17 (by decide) ?_
    refine lv_ldc2 (v := 2000) hx hb hown (hts _ wd_209) d_Mo_late_18 ?_
    obtain ⟨q9, e10, h⟩ := mx_b h
    refine gq_go (va_runS (As := [.long v2, .long 0, .long 2000]) (rest := []) ⟨hx, hb, hml, hown, hts⟩ (c_Mo_in l G v2 0 2000 _ _ e10) (cwS 3 hts (gq_gS wd_112 wd_113 wd_114 wd_111) rfl rfl rfl (by decide +kernel) ⟨Nat.le_trans (Nat.le_of_ble_eq_true rfl) hRf, Nat.le_trans (Nat.le_of_ble_eq_true rfl) hRl⟩) (gq_preS hK hN hM hS hb0) rfl rfl hl.1 rfl (lv_room (Nat.le_of_ble_eq_true rfl)) d_Mo_late_21 ⟨Nat.le_trans (Nat.le_of_ble_eq_true rfl) hRc, Nat.le_trans (Nat.le_of_ble_eq_true rfl) hRs⟩) hS (fun H locs hM hS => ?_)
    refine W.eq (g2 := F0 m 24 ls [.int q9.1]) rfl ?_
    refine lv_if_ne (tgt := 30) hx hb d_Mo_late_24 (by decide) (fun c12 => ?_) (fun c12 => ?_)
    · rw [if_neg c12] at h
      refine mx_aload_n hx hb d_Mo_late_30 rfl (lv_at hl 0 rfl) ?_
      obtain ⟨x13, e14, h⟩ := mx_b h
      refine mx_getr hx hb hts i_Mo hown hK hM e14 (ci := 4) (C := R_Mo) (T := T_Mo) (N := 23) rfl 6 (by decide) (hts _ wd_17) d_Mo_late_31 ?_
      refine lv_iload_n hx hb d_Mo_late_34 rfl (lv_at hl 1 rfl) ?_
      refine lv_lload_n hx hb d_Mo_late_35 rfl (lv_at hl 2 rfl) ?_
      obtain ⟨m16, e15, h⟩ := mx_b h
      refine mx_last hx hb hK hM hS e15 rfl d_Mo_late_36 (fun H locs hM hS => ?_)
      refine mx_aload_n hx hb d_Mo_late_37 rfl (lv_at hl 0 rfl) ?_
      obtain ⟨a20, e19, h⟩ := mx_b h
      obtain ⟨q17, e18, h⟩ := mx_b h
      have e21 := mx_c_eq e19
      refine W.eq (g2 := F0 m 38 ls [.ref a20]) (congrArg (fun z => F0 m 38 ls [va_rf z]) e21) ?_
      refine gq_go (va_runV (b := a20) (As := []) (rest := []) ⟨hx, hb, hml, hown, hts⟩ (c_Mo_reckon l G a20  _ _ e18) (cwV 0 hts (gq_gV wd_211 wd_212 wd_213 wd_114 wd_210) rfl rfl rfl (by decide +kernel) ⟨Nat.le_trans (Nat.le_of_ble_eq_true rfl) hRf, Nat.le_trans (Nat.le_of_ble_eq_true rfl) hRl⟩) (gq_preV hK hN hM hS hb0 e19 (C := R_Mo) (T := T_Mo) (N := 23) rfl) rfl rfl hl.1 rfl (lv_room (Nat.le_of_ble_eq_true rfl)) d_Mo_late_38 ⟨Nat.le_trans (Nat.le_of_ble_eq_true rfl) hRc, Nat.le_trans (Nat.le_of_ble_eq_true rfl) hRs⟩) hS (fun H locs hM hS => ?_)
      refine W.eq (g2 := F0 m 41 ls []) rfl ?_
      refine lv_iconst (v := 0) hx hb d_Mo_late_41 (by decide) ?_
      refine lv_istore (lv' := [(4, .int 0), (0, va_rf (some a0)), (1, .int v1), (2, .long v2)]) hx hb d_Mo_late_42 hl (by decide) rfl (fun ls hl => ?_)
      refine lv_iconst (v := 1) hx hb d_Mo_late_44 (by decide) ?_
      refine lv_istore (lv' := [(5, .int 1), (4, .int 0), (0, va_rf (some a0)), (1, .int v1), (2, .long v2)]) hx hb d_Mo_late_45 hl (by decide) rfl (fun ls hl => ?_)
      refine wfl_Mo_late_47 q CX  5000 _ _ _ _ h _ _ _ (lv_sub hl [2, 1, 0] rfl) hM hS
    · rw [if_pos c12] at h
      refine lv_bipush (v := (-12)) hx hb d_Mo_late_27 (by decide) ?_
      cases h
      exact W.iret hx hb hr (fun t ht hW => ⟨⟨rfl, by rw [ht]; exact hM⟩, hS.F ht⟩) hS.2.2 d_Mo_late_29
  · rw [if_pos c8] at h
    refine lv_bipush (v := (-11)) hx hb d_Mo_late_13 (by decide) ?_
    cases h
    exact W.iret hx hb hr (fun t ht hW => ⟨⟨rfl, by rw [ht]; exact hM⟩, hS.F ht⟩) hS.2.2 d_Mo_late_15
set_option maxHeartbeats 4000000 in
set_option maxRecDepth 100000 in
theorem c_Lo_rememberArrival (l : Launch) (G : mx_G) (a0 : Nat) (mem : mx_Mem) (q : mx_Mem) (h : f_Lo_rememberArrival a0 mem = some q) : Met l y_Lo_rememberArrival (gq_w y_Lo_rememberArrival b_Lo_rememberArrival 1 none) { frames := 0, cells := 0, slots := 0, locals := 0 } (gq_P G [.ref a0] mem) (gq_Q G none q) 0 0 (mx_A G) := by
  refine Met.ofW (cc := b_Lo_rememberArrival) (maxL := 1) (ret := none) (by decide) rfl ?_
  intro p e s m args below meth c s₁ B hml hv
  obtain ⟨rfl, hb0, hM, hK, hN⟩ := hv
  have CX : gq_C p (headSpec (gq_w y_Lo_rememberArrival b_Lo_rememberArrival 1 none) { frames := 0, cells := 0, slots := 0, locals := 0 }).room s m _ meth c G b_Lo_rememberArrival 1 none R_Lo 0 0 0 0 := ⟨B.exec, B.bytes, hml, B.returns, findClass_of_methodNamed B.named, fun w hw => atoms_spec (ws := gq_w y_Lo_rememberArrival b_Lo_rememberArrival 1 none) B.pre w (List.mem_cons_of_mem _ hw), B.notSynchronized, hK, hN, hb0, Nat.le_refl _, Nat.le_refl _, Nat.le_refl _, Nat.le_refl _⟩
  obtain ⟨hx, hb, hml, hr, hown, hts, hlocks, hK, hN, hb0, hRf, hRc, hRs, hRl⟩ := id CX
  have hS : va_S (mx_A G) s.heap s.heap [] := va_S.rf
  have hl := lv_entry [.ref a0] (n := 1) (Nat.le_of_ble_eq_true rfl)
  rw [lg_entry_eq]
  generalize (lg_sl [.ref a0] ++ List.replicate (1 - (lg_sl [.ref a0]).length) Slot.unset).toArray = ls at hl ⊢
  have hl : lv_has ls 1 [(0, va_rf (some a0))] := hl
  unfold f_Lo_rememberArrival at h
  refine mx_aload_n hx hb d_Lo_rememberArrival_0 rfl (lv_at hl 0 rfl) ?_
  refine mx_aload_n hx hb d_Lo_rememberArrival_1 rfl (lv_at hl 0 rfl) ?_
  obtain ⟨x1, e2, h⟩ := mx_b h
  refine mx_getl hx hb hts i_Lo hown hK hM e2 (ci := 3) (C := R_Lo) (T := T_Lo) (N := 12) rfl 9 (by decide) (hts _ wd_79) d_Lo_rememberArrival_2 ?_
  obtain ⟨m3, e4, h⟩ := mx_b h
  refine mx_put hx hb hts i_Lo t_Lo t_Lo_ok n_Lo hown hK hM hS e4 (ci := 3) (C := R_Lo) (T := T_Lo) (N := 12) rfl 10 (by decide) (hts _ wd_214) rfl (ty := .long) (by decide +kernel) rfl rfl d_Lo_rememberArrival_5 (fun H locs hM hS => ?_)
  cases h
  exact W.vret hx hb hr (fun t ht hW => ⟨⟨rfl, by rw [ht]; exact hM⟩, hS.F ht⟩) hS.2.2 d_Lo_rememberArrival_8
set_option maxHeartbeats 4000000 in
set_option maxRecDepth 100000 in
theorem wfl_Lo_concerns_18 {p : Program} {l : Launch} {e : Env} {R : Room} {s : State} {m : MethodId} {args : Array Value} {below : List Frame} {meth : Method} {c : Code} {G : mx_G} (q : Int32 × mx_Mem) (CX : gq_C p R s m args meth c G b_Lo_concerns 4 (some .boolean) R_Lo 0 0 0 0)  : ∀ (n : Nat) (v0 : Option Nat) (v1 : Option Nat) (v2 : Int32) (mem : mx_Mem), fl_Lo_concerns_18  n v0 v1 v2 mem = some q → ∀ (H : Heap) (locs : List Loc) (ls : Array Slot), lv_has ls 4 [(0, va_rf v0), (1, va_rf v1), (2, .int v2)] → mx_M vwCl G mem H → va_S (mx_A G) s.heap H locs → W p l e R s m args below meth c H locs 0 0 (MQ below (gq_Q G (some (.int q.1)) q.2) args s 0 0 (mx_A G)) (F0 m 18 ls []) := by
  obtain ⟨hx, hb, hml, hr, hown, hts, hlocks, hK, hN, hb0, hRf, hRc, hRs, hRl⟩ := id CX
  intro n
  induction n with
  | zero => intro v0 v1 v2 mem h; rw [fl_Lo_concerns_18] at h; cases h
  | succ n ih =>
    intro v0 v1 v2 mem h H locs ls hl hM hS
    rw [fl_Lo_concerns_18] at h
    refine lv_iload_n hx hb d_Lo_concerns_18 rfl (lv_at hl 2 rfl) ?_
    refine mx_aload_n hx hb d_Lo_concerns_19 rfl (lv_at hl 0 rfl) ?_
    obtain ⟨x1, e2, h⟩ := mx_b h
    refine mx_geti hx hb hts i_Lo hown hK hM e2 (ci := 3) (C := R_Lo) (T := T_Lo) (N := 12) rfl 5 (by decide) (hts _ wd_49) d_Lo_concerns_20 ?_
    refine lv_icmp_ge (tgt := 59) hx hb d_Lo_concerns_23 (by decide) (fun c3 => ?_) (fun c3 => ?_)
    · rw [if_pos c3] at h
      refine lv_iconst (v := 0) hx hb d_Lo_concerns_59 (by decide) ?_
      cases h
      exact W.zret hx hb hr rfl (fun t ht hW => ⟨⟨rfl, by rw [ht]; exact hM⟩, hS.F ht⟩) hS.2.2 d_Lo_concerns_60
    · rw [if_neg c3] at h
      refine mx_aload_n hx hb d_Lo_concerns_26 rfl (lv_at hl 0 rfl) ?_
      obtain ⟨x4, e5, h⟩ := mx_b h
      refine mx_getr hx hb hts i_Lo hown hK hM e5 (ci := 3) (C := R_Lo) (T := T_Lo) (N := 12) rfl 4 (by decide) (hts _ wd_50) d_Lo_concerns_27 ?_
      refine lv_iload_n hx hb d_Lo_concerns_30 rfl (lv_at hl 2 rfl) ?_
      obtain ⟨x6, e7, h⟩ := mx_b h
      refine mx_aald hx hb hK hM e7 rfl d_Lo_concerns_31 ?_
      obtain ⟨x8, e9, h⟩ := mx_b h
      refine mx_getrN hx hb hts i_Op hown hK hM e9 (ci := 2) (C := R_Op) (T := T_Op) (N := 3) rfl 1 (by decide) (va_Nw.use rfl (hN _ nw_3)) d_Lo_concerns_32 ?_
      refine mx_astore_n (lv' := [(3, va_rf x8), (0, va_rf v0), (1, va_rf v1), (2, .int v2)]) hx hb d_Lo_concerns_35 rfl hl (by decide) rfl (fun ls hl => ?_)
      refine mx_aload_n hx hb d_Lo_concerns_36 rfl (lv_at hl 0 rfl) ?_
      refine mx_ifnull (tgt := 53) hx hb d_Lo_concerns_37 (by decide) (fun c10 => ?_) (fun c10 => ?_)
      · rw [if_pos c10] at h
        refine lv_iinc (v := (v2 + 1)) (lv' := [(2, .int ((v2 + 1))), (3, va_rf x8), (0, va_rf v0), (1, va_rf v1)]) hx hb d_Lo_concerns_53 hl (k := 3) rfl rfl (by decide) (by simp [mx_cat, mx_cati, mx_catl, mx_catr]) (fun ls hl => ?_)
        refine lv_goto (tgt := 18) hx hb d_Lo_concerns_56 (by decide) ?_
        exact ih _ _ _ _ h _ _ _ (lv_sub hl [2, 3, 0] rfl) hM hS
      · rw [if_neg c10] at h
        refine mx_aload_n hx hb d_Lo_concerns_40 rfl (lv_at hl 0 rfl) ?_
        obtain ⟨x11, e12, h⟩ := mx_b h
        refine mx_getiN hx hb hts i_Li hown hK hM e12 (ci := 1) (C := R_Li) (T := T_Li) (N := 8) rfl 0 (by decide) (va_Nw.use rfl (hN _ nw_14)) d_Lo_concerns_41 ?_
        refine mx_aload_n hx hb d_Lo_concerns_44 rfl (lv_at hl 2 rfl) ?_
        obtain ⟨x13, e14, h⟩ := mx_b h
        refine mx_getiN hx hb hts i_Li hown hK hM e14 (ci := 1) (C := R_Li) (T := T_Li) (N := 8) rfl 0 (by decide) (va_Nw.use rfl (hN _ nw_14)) d_Lo_concerns_45 ?_
        refine lv_icmp_ne (tgt := 53) hx hb d_Lo_concerns_48 (by decide) (fun c15 => ?_) (fun c15 => ?_)
        · rw [if_neg c15] at h
          refine lv_iinc (v := (v2 + 1)) (lv' := [(2, .int ((v2 + 1))), (3, va_rf x8), (0, va_rf v0), (1, va_rf v1)]) hx hb d_Lo_concerns_53 hl (k := 3) rfl rfl (by decide) (by simp [mx_cat, mx_cati, mx_catl, mx_catr]) (fun ls hl => ?_)
          refine lv_goto (tgt := 18) hx hb d_Lo_concerns_56 (by decide) ?_
          exact ih _ _ _ _ h _ _ _ (lv_sub hl [2, 3, 0] rfl) hM hS
        · rw [if_pos c15] at h
          refine lv_iconst (v := 1) hx hb d_Lo_concerns_51 (by decide) ?_
          cases h
          exact W.zret hx hb hr rfl (fun t ht hW => ⟨⟨rfl, by rw [ht]; exact hM⟩, hS.F ht⟩) hS.2.2 d_Lo_concerns_52
set_option maxHeartbeats 4000000 in
set_option maxRecDepth 100000 in
theorem c_Lo_concerns (l : Launch) (G : mx_G) (a0 : Nat) (v1 : Option Nat) (mem : mx_Mem) (q : Int32 × mx_Mem) (h : f_Lo_concerns a0 v1 mem = some q) : Met l y_Lo_concerns (gq_w y_Lo_concerns b_Lo_concerns 4 (some .boolean)) { frames := 0, cells := 0, slots := 0, locals := 0 } (gq_P G [.ref a0, va_rf v1] mem) (gq_Q G (some (.int q.1)) q.2) 0 0 (mx_A G) := by
  refine Met.ofW (cc := b_Lo_concerns) (maxL := 4) (ret := (some .boolean)) (by decide) rfl ?_
  intro p e s m args below meth c s₁ B hml hv
  obtain ⟨rfl, hb0, hM, hK, hN⟩ := hv
  have CX : gq_C p (headSpec (gq_w y_Lo_concerns b_Lo_concerns 4 (some .boolean)) { frames := 0, cells := 0, slots := 0, locals := 0 }).room s m _ meth c G b_Lo_concerns 4 (some .boolean) R_Lo 0 0 0 0 := ⟨B.exec, B.bytes, hml, B.returns, findClass_of_methodNamed B.named, fun w hw => atoms_spec (ws := gq_w y_Lo_concerns b_Lo_concerns 4 (some .boolean)) B.pre w (List.mem_cons_of_mem _ hw), B.notSynchronized, hK, hN, hb0, Nat.le_refl _, Nat.le_refl _, Nat.le_refl _, Nat.le_refl _⟩
  obtain ⟨hx, hb, hml, hr, hown, hts, hlocks, hK, hN, hb0, hRf, hRc, hRs, hRl⟩ := id CX
  have hS : va_S (mx_A G) s.heap s.heap [] := va_S.rf
  have hl := lv_entry [.ref a0, va_rf v1] (n := 4) (by simp [lg_sl, mx_cat, mx_cati, mx_catl, mx_catr])
  rw [lg_entry_eq]
  generalize (lg_sl [.ref a0, va_rf v1] ++ List.replicate (4 - (lg_sl [.ref a0, va_rf v1]).length) Slot.unset).toArray = ls at hl ⊢
  have hl : lv_has ls 4 [(0, va_rf (some a0)), (1, va_rf v1)] := by have h9 := hl; simp [lv_args, mx_cat, mx_cati, mx_catl, mx_catr] at h9; exact h9
  unfold f_Lo_concerns at h
  refine mx_aload_n hx hb d_Lo_concerns_0 rfl (lv_at hl 0 rfl) ?_
  obtain ⟨x1, e2, h⟩ := mx_b h
  refine mx_getr hx hb hts i_Lo hown hK hM e2 (ci := 3) (C := R_Lo) (T := T_Lo) (N := 12) rfl 0 (by decide) (hts _ wd_55) d_Lo_concerns_1 ?_
  obtain ⟨x3, e4, h⟩ := mx_b h
  refine mx_getiN hx hb hts i_Li hown hK hM e4 (ci := 1) (C := R_Li) (T := T_Li) (N := 8) rfl 0 (by decide) (va_Nw.use rfl (hN _ nw_14)) d_Lo_concerns_4 ?_
  refine mx_aload_n hx hb d_Lo_concerns_7 rfl (lv_at hl 1 rfl) ?_
  obtain ⟨x5, e6, h⟩ := mx_b h
  refine mx_getiN hx hb hts i_Li hown hK hM e6 (ci := 1) (C := R_Li) (T := T_Li) (N := 8) rfl 0 (by decide) (va_Nw.use rfl (hN _ nw_14)) d_Lo_concerns_8 ?_
  refine lv_icmp_ne (tgt := 16) hx hb d_Lo_concerns_11 (by decide) (fun c7 => ?_) (fun c7 => ?_)
  · rw [if_neg c7] at h
    refine lv_iconst (v := 0) hx hb d_Lo_concerns_16 (by decide) ?_
    refine lv_istore_n (lv' := [(2, .int 0), (0, va_rf (some a0)), (1, va_rf v1)]) hx hb d_Lo_concerns_17 rfl hl (by decide) (by simp [mx_cat, mx_cati, mx_catl, mx_catr]) (fun ls hl => ?_)
    refine wfl_Lo_concerns_18 q CX  5000 _ _ _ _ h _ _ _ (lv_sub hl [1, 2, 0] rfl) hM hS
  · rw [if_pos c7] at h
    refine lv_iconst (v := 1) hx hb d_Lo_concerns_14 (by decide) ?_
    cases h
    exact W.zret hx hb hr rfl (fun t ht hW => ⟨⟨rfl, by rw [ht]; exact hM⟩, hS.F ht⟩) hS.2.2 d_Lo_concerns_15
set_option maxHeartbeats 4000000 in
set_option maxRecDepth 100000 in
theorem c_Lo_pickFirst (l : Launch) (G : mx_G) (a0 : Nat) (mem : mx_Mem) (q : mx_Mem) (h : f_Lo_pickFirst a0 mem = some q) : Met l y_Lo_pickFirst (gq_w y_Lo_pickFirst b_Lo_pickFirst 1 none) { frames := 0, cells := 0, slots := 0, locals := 0 } (gq_P G [.ref a0] mem) (gq_Q G none q) 0 0 (mx_A G) := by
  refine Met.ofW (cc := b_Lo_pickFirst) (maxL := 1) (ret := none) (by decide) rfl ?_
  intro p e s m args below meth c s₁ B hml hv
  obtain ⟨rfl, hb0, hM, hK, hN⟩ := hv
  have CX : gq_C p (headSpec (gq_w y_Lo_pickFirst b_Lo_pickFirst 1 none) { frames := 0, cells := 0, slots := 0, locals := 0 }).room s m _ meth c G b_Lo_pickFirst 1 none R_Lo 0 0 0 0 := ⟨B.exec, B.bytes, hml, B.returns, findClass_of_methodNamed B.named, fun w hw => atoms_spec (ws := gq_w y_Lo_pickFirst b_Lo_pickFirst 1 none) B.pre w (List.mem_cons_of_mem _ hw), B.notSynchronized, hK, hN, hb0, Nat.le_refl _, Nat.le_refl _, Nat.le_refl _, Nat.le_refl _⟩
  obtain ⟨hx, hb, hml, hr, hown, hts, hlocks, hK, hN, hb0, hRf, hRc, hRs, hRl⟩ := id CX
  have hS : va_S (mx_A G) s.heap s.heap [] := va_S.rf
  have hl := lv_entry [.ref a0] (n := 1) (Nat.le_of_ble_eq_true rfl)
  rw [lg_entry_eq]
  generalize (lg_sl [.ref a0] ++ List.replicate (1 - (lg_sl [.ref a0]).length) Slot.unset).toArray = ls at hl ⊢
  have hl : lv_has ls 1 [(0, va_rf (some a0))] := hl
  unfold f_Lo_pickFirst at h
  refine mx_aload_n hx hb d_Lo_pickFirst_0 rfl (lv_at hl 0 rfl) ?_
  refine mx_aload_n hx hb d_Lo_pickFirst_1 rfl (lv_at hl 0 rfl) ?_
  obtain ⟨x1, e2, h⟩ := mx_b h
  refine mx_geti hx hb hts i_Lo hown hK hM e2 (ci := 3) (C := R_Lo) (T := T_Lo) (N := 12) rfl 5 (by decide) (hts _ wd_49) d_Lo_pickFirst_2 ?_
  refine lv_if_le (tgt := 12) hx hb d_Lo_pickFirst_5 (by decide) (fun c3 => ?_) (fun c3 => ?_)
  · rw [if_pos c3] at h
    refine lv_iconst (v := (-1)) hx hb d_Lo_pickFirst_12 (by decide) ?_
    obtain ⟨m4, e5, h⟩ := mx_b h
    refine mx_put hx hb hts i_Lo t_Lo t_Lo_ok n_Lo hown hK hM hS e5 (ci := 3) (C := R_Lo) (T := T_Lo) (N := 12) rfl 6 (by decide) (hts _ wd_48) rfl (ty := .int) (by decide +kernel) rfl rfl d_Lo_pickFirst_13 (fun H locs hM hS => ?_)
    cases h
    exact W.vret hx hb hr (fun t ht hW => ⟨⟨rfl, by rw [ht]; exact hM⟩, hS.F ht⟩) hS.2.2 d_Lo_pickFirst_16
  · rw [if_neg c3] at h
    refine lv_iconst (v := 0) hx hb d_Lo_pickFirst_8 (by decide) ?_
    refine lv_goto (tgt := 13) hx hb d_Lo_pickFirst_9 (by decide) ?_
    obtain ⟨m4, e5, h⟩ := mx_b h
    refine mx_put hx hb hts i_Lo t_Lo t_Lo_ok n_Lo hown hK hM hS e5 (ci := 3) (C := R_Lo) (T := T_Lo) (N := 12) rfl 6 (by decide) (hts _ wd_48) rfl (ty := .int) (by decide +kernel) rfl rfl d_Lo_pickFirst_13 (fun H locs hM hS => ?_)
    cases h
    exact W.vret hx hb hr (fun t ht hW => ⟨⟨rfl, by rw [ht]; exact hM⟩, hS.F ht⟩) hS.2.2 d_Lo_pickFirst_16
set_option maxHeartbeats 4000000 in
set_option maxRecDepth 100000 in
theorem c_Lo_hasMoved (l : Launch) (G : mx_G) (a0 : Nat) (mem : mx_Mem) (q : Int32 × mx_Mem) (h : f_Lo_hasMoved a0 mem = some q) : Met l y_Lo_hasMoved (gq_w y_Lo_hasMoved b_Lo_hasMoved 1 (some .boolean)) { frames := 0, cells := 0, slots := 0, locals := 0 } (gq_P G [.ref a0] mem) (gq_Q G (some (.int q.1)) q.2) 0 0 (mx_A G) := by
  refine Met.ofW (cc := b_Lo_hasMoved) (maxL := 1) (ret := (some .boolean)) (by decide) rfl ?_
  intro p e s m args below meth c s₁ B hml hv
  obtain ⟨rfl, hb0, hM, hK, hN⟩ := hv
  have CX : gq_C p (headSpec (gq_w y_Lo_hasMoved b_Lo_hasMoved 1 (some .boolean)) { frames := 0, cells := 0, slots := 0, locals := 0 }).room s m _ meth c G b_Lo_hasMoved 1 (some .boolean) R_Lo 0 0 0 0 := ⟨B.exec, B.bytes, hml, B.returns, findClass_of_methodNamed B.named, fun w hw => atoms_spec (ws := gq_w y_Lo_hasMoved b_Lo_hasMoved 1 (some .boolean)) B.pre w (List.mem_cons_of_mem _ hw), B.notSynchronized, hK, hN, hb0, Nat.le_refl _, Nat.le_refl _, Nat.le_refl _, Nat.le_refl _⟩
  obtain ⟨hx, hb, hml, hr, hown, hts, hlocks, hK, hN, hb0, hRf, hRc, hRs, hRl⟩ := id CX
  have hS : va_S (mx_A G) s.heap s.heap [] := va_S.rf
  have hl := lv_entry [.ref a0] (n := 1) (Nat.le_of_ble_eq_true rfl)
  rw [lg_entry_eq]
  generalize (lg_sl [.ref a0] ++ List.replicate (1 - (lg_sl [.ref a0]).length) Slot.unset).toArray = ls at hl ⊢
  have hl : lv_has ls 1 [(0, va_rf (some a0))] := hl
  unfold f_Lo_hasMoved at h
  refine mx_aload_n hx hb d_Lo_hasMoved_0 rfl (lv_at hl 0 rfl) ?_
  obtain ⟨x1, e2, h⟩ := mx_b h
  refine mx_getl hx hb hts i_Lo hown hK hM e2 (ci := 3) (C := R_Lo) (T := T_Lo) (N := 12) rfl 9 (by decide) (hts _ wd_79) d_Lo_hasMoved_1 ?_
  refine mx_aload_n hx hb d_Lo_hasMoved_4 rfl (lv_at hl 0 rfl) ?_
  obtain ⟨x3, e4, h⟩ := mx_b h
  refine mx_getl hx hb hts i_Lo hown hK hM e4 (ci := 3) (C := R_Lo) (T := T_Lo) (N := 12) rfl 10 (by decide) (hts _ wd_214) d_Lo_hasMoved_5 ?_
  refine mx_lcmp_eq (tgt := 16) hx hb d_Lo_hasMoved_8 d_Lo_hasMoved_9 (by decide) (fun c5 => ?_) (fun c5 => ?_)
  · rw [if_pos c5] at h
    refine lv_iconst (v := 0) hx hb d_Lo_hasMoved_16 (by decide) ?_
    cases h
    exact W.zret hx hb hr rfl (fun t ht hW => ⟨⟨rfl, by rw [ht]; exact hM⟩, hS.F ht⟩) hS.2.2 d_Lo_hasMoved_17
  · rw [if_neg c5] at h
    refine lv_iconst (v := 1) hx hb d_Lo_hasMoved_12 (by decide) ?_
    refine lv_goto (tgt := 17) hx hb d_Lo_hasMoved_13 (by decide) ?_
    cases h
    exact W.zret hx hb hr rfl (fun t ht hW => ⟨⟨rfl, by rw [ht]; exact hM⟩, hS.F ht⟩) hS.2.2 d_Lo_hasMoved_17
set_option maxHeartbeats 4000000 in
set_option maxRecDepth 100000 in
theorem wfl_LR_countMoved_4 {p : Program} {l : Launch} {e : Env} {R : Room} {s : State} {m : MethodId} {args : Array Value} {below : List Frame} {meth : Method} {c : Code} {G : mx_G} (q : Int32 × mx_Mem) (CX : gq_C p R s m args meth c G b_LR_countMoved 3 (some .int) R_LR 1 0 0 20)  : ∀ (n : Nat) (v0 : Option Nat) (v1 : Int32) (v2 : Int32) (mem : mx_Mem), fl_LR_countMoved_4  n v0 v1 v2 mem = some q → ∀ (H : Heap) (locs : List Loc) (ls : Array Slot), lv_has ls 3 [(0, va_rf v0), (1, .int v1), (2, .int v2)] → mx_M vwCl G mem H → va_S (mx_A G) s.heap H locs → W p l e R s m args below meth c H locs 0 0 (MQ below (gq_Q G (some (.int q.1)) q.2) args s 0 0 (mx_A G)) (F0 m 4 ls []) := by
  obtain ⟨hx, hb, hml, hr, hown, hts, hlocks, hK, hN, hb0, hRf, hRc, hRs, hRl⟩ := id CX
  intro n
  induction n with
  | zero => intro v0 v1 v2 mem h; rw [fl_LR_countMoved_4] at h; cases h
  | succ n ih =>
    intro v0 v1 v2 mem h H locs ls hl hM hS
    rw [fl_LR_countMoved_4] at h
    refine lv_iload_n hx hb d_LR_countMoved_4 rfl (lv_at hl 2 rfl) ?_
    refine mx_aload_n hx hb d_LR_countMoved_5 rfl (lv_at hl 0 rfl) ?_
    obtain ⟨x1, e2, h⟩ := mx_b h
    refine mx_geti hx hb hts i_LR hown hK hM e2 (ci := 0) (C := R_LR) (T := T_LR) (N := 5) rfl 4 (by decide) (hts _ wd_9) d_LR_countMoved_6 ?_
    refine lv_icmp_ge (tgt := 33) hx hb d_LR_countMoved_9 (by decide) (fun c3 => ?_) (fun c3 => ?_)
    · rw [if_pos c3] at h
      refine lv_iload_n hx hb d_LR_countMoved_33 rfl (lv_at hl 1 rfl) ?_
      cases h
      exact W.iret hx hb hr (fun t ht hW => ⟨⟨rfl, by rw [ht]; exact hM⟩, hS.F ht⟩) hS.2.2 d_LR_countMoved_34
    · rw [if_neg c3] at h
      refine mx_aload_n hx hb d_LR_countMoved_12 rfl (lv_at hl 0 rfl) ?_
      obtain ⟨x4, e5, h⟩ := mx_b h
      refine mx_getr hx hb hts i_LR hown hK hM e5 (ci := 0) (C := R_LR) (T := T_LR) (N := 5) rfl 2 (by decide) (hts _ wd_6) d_LR_countMoved_13 ?_
      refine lv_iload_n hx hb d_LR_countMoved_16 rfl (lv_at hl 2 rfl) ?_
      obtain ⟨x6, e7, h⟩ := mx_b h
      refine mx_aald hx hb hK hM e7 rfl d_LR_countMoved_17 ?_
      obtain ⟨a11, e10, h⟩ := mx_b h
      obtain ⟨q8, e9, h⟩ := mx_b h
      have e12 := mx_c_eq e10
      refine W.eq (g2 := F0 m 18 ls [.ref a11]) (congrArg (fun z => F0 m 18 ls [va_rf z]) e12) ?_
      refine gq_go (va_runV (b := a11) (As := []) (rest := []) ⟨hx, hb, hml, hown, hts⟩ (c_Lo_hasMoved l G a11  _ _ e9) (cwV 0 hts (gq_gV wd_216 wd_217 wd_218 wd_66 wd_215) rfl rfl rfl (by decide +kernel) ⟨Nat.le_trans (Nat.le_of_ble_eq_true rfl) hRf, Nat.le_trans (Nat.le_of_ble_eq_true rfl) hRl⟩) (gq_preV hK hN hM hS hb0 e10 (C := R_Lo) (T := T_Lo) (N := 12) rfl) rfl rfl hl.1 rfl (lv_room (Nat.le_of_ble_eq_true rfl)) d_LR_countMoved_18 ⟨Nat.le_trans (Nat.le_of_ble_eq_true rfl) hRc, Nat.le_trans (Nat.le_of_ble_eq_true rfl) hRs⟩) hS (fun H locs hM hS => ?_)
      refine W.eq (g2 := F0 m 21 ls [.int q8.1]) rfl ?_
      refine lv_if_eq (tgt := 27) hx hb d_LR_countMoved_21 (by decide) (fun c13 => ?_) (fun c13 => ?_)
      · rw [if_pos c13] at h
        refine lv_iinc (v := (v2 + 1)) (lv' := [(2, .int ((v2 + 1))), (0, va_rf v0), (1, .int v1)]) hx hb d_LR_countMoved_27 hl (k := 2) rfl rfl (by decide) rfl (fun ls hl => ?_)
        refine lv_goto (tgt := 4) hx hb d_LR_countMoved_30 (by decide) ?_
        exact ih _ _ _ _ h _ _ _ (lv_sub hl [1, 2, 0] rfl) hM hS
      · rw [if_neg c13] at h
        refine lv_iinc (v := (v1 + 1)) (lv' := [(1, .int ((v1 + 1))), (0, va_rf v0), (2, .int v2)]) hx hb d_LR_countMoved_24 hl (k := 1) rfl rfl (by decide) (by simp [mx_cat, mx_cati, mx_catl, mx_catr]) (fun ls hl => ?_)
        refine lv_iinc (v := (v2 + 1)) (lv' := [(2, .int ((v2 + 1))), (1, .int ((v1 + 1))), (0, va_rf v0)]) hx hb d_LR_countMoved_27 hl (k := 2) rfl rfl (by decide) rfl (fun ls hl => ?_)
        refine lv_goto (tgt := 4) hx hb d_LR_countMoved_30 (by decide) ?_
        exact ih _ _ _ _ h _ _ _ (lv_sub hl [2, 1, 0] rfl) hM hS
set_option maxHeartbeats 4000000 in
set_option maxRecDepth 100000 in
theorem c_LR_countMoved (l : Launch) (G : mx_G) (a0 : Nat) (mem : mx_Mem) (q : Int32 × mx_Mem) (h : f_LR_countMoved a0 mem = some q) : Met l y_LR_countMoved (gq_w y_LR_countMoved b_LR_countMoved 3 (some .int)) { frames := 1, cells := 0, slots := 0, locals := 20 } (gq_P G [.ref a0] mem) (gq_Q G (some (.int q.1)) q.2) 0 0 (mx_A G) := by
  refine Met.ofW (cc := b_LR_countMoved) (maxL := 3) (ret := (some .int)) (by decide) rfl ?_
  intro p e s m args below meth c s₁ B hml hv
  obtain ⟨rfl, hb0, hM, hK, hN⟩ := hv
  have CX : gq_C p (headSpec (gq_w y_LR_countMoved b_LR_countMoved 3 (some .int)) { frames := 1, cells := 0, slots := 0, locals := 20 }).room s m _ meth c G b_LR_countMoved 3 (some .int) R_LR 1 0 0 20 := ⟨B.exec, B.bytes, hml, B.returns, findClass_of_methodNamed B.named, fun w hw => atoms_spec (ws := gq_w y_LR_countMoved b_LR_countMoved 3 (some .int)) B.pre w (List.mem_cons_of_mem _ hw), B.notSynchronized, hK, hN, hb0, Nat.le_refl _, Nat.le_refl _, Nat.le_refl _, Nat.le_refl _⟩
  obtain ⟨hx, hb, hml, hr, hown, hts, hlocks, hK, hN, hb0, hRf, hRc, hRs, hRl⟩ := id CX
  have hS : va_S (mx_A G) s.heap s.heap [] := va_S.rf
  have hl := lv_entry [.ref a0] (n := 3) (Nat.le_of_ble_eq_true rfl)
  rw [lg_entry_eq]
  generalize (lg_sl [.ref a0] ++ List.replicate (3 - (lg_sl [.ref a0]).length) Slot.unset).toArray = ls at hl ⊢
  have hl : lv_has ls 3 [(0, va_rf (some a0))] := hl
  unfold f_LR_countMoved at h
  refine lv_iconst (v := 0) hx hb d_LR_countMoved_0 (by decide) ?_
  refine lv_istore_n (lv' := [(1, .int 0), (0, va_rf (some a0))]) hx hb d_LR_countMoved_1 rfl hl (by decide) (by simp [mx_cat, mx_cati, mx_catl, mx_catr]) (fun ls hl => ?_)
  refine lv_iconst (v := 0) hx hb d_LR_countMoved_2 (by decide) ?_
  refine lv_istore_n (lv' := [(2, .int 0), (1, .int 0), (0, va_rf (some a0))]) hx hb d_LR_countMoved_3 rfl hl (by decide) rfl (fun ls hl => ?_)
  refine wfl_LR_countMoved_4 q CX  5000 _ _ _ _ h _ _ _ (lv_sub hl [2, 1, 0] rfl) hM hS
end
section
set_option maxHeartbeats 4000000 in
set_option maxRecDepth 100000 in
theorem wfl_LR_tell_32 {p : Program} {l : Launch} {e : Env} {R : Room} {s : State} {m : MethodId} {args : Array Value} {below : List Frame} {meth : Method} {c : Code} {G : mx_G} (q : Int32 × mx_Mem) (CX : gq_C p R s m args meth c G b_LR_tell 6 (some .int) R_LR 4 0 0 80)  : ∀ (n : Nat) (v0 : Option Nat) (v2 : Int64) (v4 : Option Nat) (v5 : Int32) (mem : mx_Mem), fl_LR_tell_32  n v0 v2 v4 v5 mem = some q → ∀ (H : Heap) (locs : List Loc) (ls : Array Slot), lv_has ls 6 [(0, va_rf v0), (2, .long v2), (4, va_rf v4), (5, .int v5)] → mx_M vwCl G mem H → va_S (mx_A G) s.heap H locs → W p l e R s m args below meth c H locs 0 0 (MQ below (gq_Q G (some (.int q.1)) q.2) args s 0 0 (mx_A G)) (F0 m 32 ls []) := by
  obtain ⟨hx, hb, hml, hr, hown, hts, hlocks, hK, hN, hb0, hRf, hRc, hRs, hRl⟩ := id CX
  intro n
  induction n with
  | zero => intro v0 v2 v4 v5 mem h; rw [fl_LR_tell_32] at h; cases h
  | succ n ih =>
    intro v0 v2 v4 v5 mem h H locs ls hl hM hS
    rw [fl_LR_tell_32] at h
    refine lv_iload hx hb d_LR_tell_32 (lv_at hl 3 rfl) ?_
    refine mx_aload_n hx hb d_LR_tell_34 rfl (lv_at hl 0 rfl) ?_
    obtain ⟨x1, e2, h⟩ := mx_b h
    refine mx_geti hx hb hts i_LR hown hK hM e2 (ci := 0) (C := R_LR) (T := T_LR) (N := 5) rfl 4 (by decide) (hts _ wd_9) d_LR_tell_35 ?_
    refine lv_icmp_ge (tgt := 82) hx hb d_LR_tell_38 (by decide) (fun c3 => ?_) (fun c3 => ?_)
    · rw [if_pos c3] at h
      refine mx_aload hx hb d_LR_tell_82 (lv_at hl 2 rfl) ?_
      refine lv_lload_n hx hb d_LR_tell_84 rfl (lv_at hl 1 rfl) ?_
      obtain ⟨m4, e5, h⟩ := mx_b h
      refine mx_putN hx hb hts i_Li t_Li t_Li_ok n_Li hown hK hM hS e5 (ci := 1) (C := R_Li) (T := T_Li) (N := 8) rfl 5 (by decide) (va_Nw.use rfl (hN _ nw_13)) rfl (ty := .long) (by decide +kernel) rfl rfl d_LR_tell_85 (fun H locs hM hS => ?_)
      refine mx_aload_n hx hb d_LR_tell_88 rfl (lv_at hl 0 rfl) ?_
      obtain ⟨a9, e8, h⟩ := mx_b h
      obtain ⟨q6, e7, h⟩ := mx_b h
      have e10 := mx_c_eq e8
      refine W.eq (g2 := F0 m 89 ls [.ref a9]) (congrArg (fun z => F0 m 89 ls [va_rf z]) e10) ?_
      refine gq_go (va_runV (b := a9) (As := []) (rest := []) ⟨hx, hb, hml, hown, hts⟩ (c_LR_settle l G a9  _ _ e7) (cwV 0 hts (gq_gV wd_106 wd_107 wd_108 wd_38 wd_105) rfl rfl rfl (by decide +kernel) ⟨Nat.le_trans (Nat.le_of_ble_eq_true rfl) hRf, Nat.le_trans (Nat.le_of_ble_eq_true rfl) hRl⟩) (gq_preV hK hN hM hS hb0 e8 (C := R_LR) (T := T_LR) (N := 5) rfl) rfl rfl hl.1 rfl (lv_room (Nat.le_of_ble_eq_true rfl)) d_LR_tell_89 ⟨Nat.le_trans (Nat.le_of_ble_eq_true rfl) hRc, Nat.le_trans (Nat.le_of_ble_eq_true rfl) hRs⟩) hS (fun H locs hM hS => ?_)
      refine W.eq (g2 := F0 m 92 ls []) rfl ?_
      refine mx_aload_n hx hb d_LR_tell_92 rfl (lv_at hl 0 rfl) ?_
      obtain ⟨a14, e13, h⟩ := mx_b h
      obtain ⟨q11, e12, h⟩ := mx_b h
      have e15 := mx_c_eq e13
      refine W.eq (g2 := F0 m 93 ls [.ref a14]) (congrArg (fun z => F0 m 93 ls [va_rf z]) e15) ?_
      refine gq_go (va_runV (b := a14) (As := []) (rest := []) ⟨hx, hb, hml, hown, hts⟩ (c_LR_countMoved l G a14  _ _ e12) (cwV 0 hts (gq_gV wd_220 wd_221 wd_222 wd_38 wd_219) rfl rfl rfl (by decide +kernel) ⟨Nat.le_trans (Nat.le_of_ble_eq_true rfl) hRf, Nat.le_trans (Nat.le_of_ble_eq_true rfl) hRl⟩) (gq_preV hK hN hM hS hb0 e13 (C := R_LR) (T := T_LR) (N := 5) rfl) rfl rfl hl.1 rfl (lv_room (Nat.le_of_ble_eq_true rfl)) d_LR_tell_93 ⟨Nat.le_trans (Nat.le_of_ble_eq_true rfl) hRc, Nat.le_trans (Nat.le_of_ble_eq_true rfl) hRs⟩) hS (fun H locs hM hS => ?_)
      refine W.eq (g2 := F0 m 96 ls [.int q11.1]) rfl ?_
      cases h
      exact W.iret hx hb hr (fun t ht hW => ⟨⟨rfl, by rw [ht]; exact hM⟩, hS.F ht⟩) hS.2.2 d_LR_tell_96
    · rw [if_neg c3] at h
      refine mx_aload_n hx hb d_LR_tell_41 rfl (lv_at hl 0 rfl) ?_
      obtain ⟨x4, e5, h⟩ := mx_b h
      refine mx_getr hx hb hts i_LR hown hK hM e5 (ci := 0) (C := R_LR) (T := T_LR) (N := 5) rfl 2 (by decide) (hts _ wd_6) d_LR_tell_42 ?_
      refine lv_iload hx hb d_LR_tell_45 (lv_at hl 3 rfl) ?_
      obtain ⟨x6, e7, h⟩ := mx_b h
      refine mx_aald hx hb hK hM e7 rfl d_LR_tell_47 ?_
      obtain ⟨a11, e10, h⟩ := mx_b h
      obtain ⟨q8, e9, h⟩ := mx_b h
      have e12 := mx_c_eq e10
      refine W.eq (g2 := F0 m 48 ls [.ref a11]) (congrArg (fun z => F0 m 48 ls [va_rf z]) e12) ?_
      refine gq_go (va_runV (b := a11) (As := []) (rest := []) ⟨hx, hb, hml, hown, hts⟩ (c_Lo_rememberArrival l G a11  _ _ e9) (cwV 0 hts (gq_gV wd_224 wd_225 wd_226 wd_66 wd_223) rfl rfl rfl (by decide +kernel) ⟨Nat.le_trans (Nat.le_of_ble_eq_true rfl) hRf, Nat.le_trans (Nat.le_of_ble_eq_true rfl) hRl⟩) (gq_preV hK hN hM hS hb0 e10 (C := R_Lo) (T := T_Lo) (N := 12) rfl) rfl rfl hl.1 rfl (lv_room (Nat.le_of_ble_eq_true rfl)) d_LR_tell_48 ⟨Nat.le_trans (Nat.le_of_ble_eq_true rfl) hRc, Nat.le_trans (Nat.le_of_ble_eq_true rfl) hRs⟩) hS (fun H locs hM hS => ?_)
      refine W.eq (g2 := F0 m 51 ls []) rfl ?_
      refine mx_aload_n hx hb d_LR_tell_51 rfl (lv_at hl 0 rfl) ?_
      obtain ⟨x13, e14, h⟩ := mx_b h
      refine mx_getr hx hb hts i_LR hown hK hM e14 (ci := 0) (C := R_LR) (T := T_LR) (N := 5) rfl 2 (by decide) (hts _ wd_6) d_LR_tell_52 ?_
      refine lv_iload hx hb d_LR_tell_55 (lv_at hl 3 rfl) ?_
      obtain ⟨x15, e16, h⟩ := mx_b h
      refine mx_aald hx hb hK hM e16 rfl d_LR_tell_57 ?_
      refine mx_aload hx hb d_LR_tell_58 (lv_at hl 2 rfl) ?_
      obtain ⟨a20, e19, h⟩ := mx_b h
      obtain ⟨q17, e18, h⟩ := mx_b h
      have e21 := mx_c_eq e19
      refine W.eq (g2 := F0 m 60 ls [va_rf v4, .ref a20]) (congrArg (fun z => F0 m 60 ls [va_rf v4, va_rf z]) e21) ?_
      refine gq_go (va_runV (b := a20) (As := [va_rf v4]) (rest := []) ⟨hx, hb, hml, hown, hts⟩ (c_Lo_concerns l G a20 v4 _ _ e18) (cwV 1 hts (gq_gV wd_228 wd_229 wd_230 wd_66 wd_227) rfl rfl rfl (by decide +kernel) ⟨Nat.le_trans (Nat.le_of_ble_eq_true rfl) hRf, Nat.le_trans (Nat.le_of_ble_eq_true rfl) hRl⟩) (gq_preV hK hN hM hS hb0 e19 (C := R_Lo) (T := T_Lo) (N := 12) rfl) rfl rfl hl.1 rfl (lv_room (Nat.le_of_ble_eq_true rfl)) d_LR_tell_60 ⟨Nat.le_trans (Nat.le_of_ble_eq_true rfl) hRc, Nat.le_trans (Nat.le_of_ble_eq_true rfl) hRs⟩) hS (fun H locs hM hS => ?_)
      refine W.eq (g2 := F0 m 63 ls [.int q17.1]) rfl ?_
      refine lv_if_eq (tgt := 76) hx hb d_LR_tell_63 (by decide) (fun c22 => ?_) (fun c22 => ?_)
      · rw [if_pos c22] at h
        refine lv_iinc (v := (v5 + 1)) (lv' := [(5, .int ((v5 + 1))), (0, va_rf v0), (2, .long v2), (4, va_rf v4)]) hx hb d_LR_tell_76 hl (k := 3) rfl rfl (by decide) (by simp [mx_cat, mx_cati, mx_catl, mx_catr]) (fun ls hl => ?_)
        refine lv_goto (tgt := 32) hx hb d_LR_tell_79 (by decide) ?_
        exact ih _ _ _ _ _ h _ _ _ (lv_sub hl [1, 2, 3, 0] rfl) hM hS
      · rw [if_neg c22] at h
        refine mx_aload_n hx hb d_LR_tell_66 rfl (lv_at hl 0 rfl) ?_
        obtain ⟨x23, e24, h⟩ := mx_b h
        refine mx_getr hx hb hts i_LR hown hK hM e24 (ci := 0) (C := R_LR) (T := T_LR) (N := 5) rfl 2 (by decide) (hts _ wd_6) d_LR_tell_67 ?_
        refine lv_iload hx hb d_LR_tell_70 (lv_at hl 3 rfl) ?_
        obtain ⟨x25, e26, h⟩ := mx_b h
        refine mx_aald hx hb hK hM e26 rfl d_LR_tell_72 ?_
        obtain ⟨a30, e29, h⟩ := mx_b h
        obtain ⟨q27, e28, h⟩ := mx_b h
        have e31 := mx_c_eq e29
        refine W.eq (g2 := F0 m 73 ls [.ref a30]) (congrArg (fun z => F0 m 73 ls [va_rf z]) e31) ?_
        refine gq_go (va_runV (b := a30) (As := []) (rest := []) ⟨hx, hb, hml, hown, hts⟩ (c_Lo_pickFirst l G a30  _ _ e28) (cwV 0 hts (gq_gV wd_232 wd_233 wd_234 wd_66 wd_231) rfl rfl rfl (by decide +kernel) ⟨Nat.le_trans (Nat.le_of_ble_eq_true rfl) hRf, Nat.le_trans (Nat.le_of_ble_eq_true rfl) hRl⟩) (gq_preV hK hN hM hS hb0 e29 (C := R_Lo) (T := T_Lo) (N := 12) rfl) rfl rfl hl.1 rfl (lv_room (Nat.le_of_ble_eq_true rfl)) d_LR_tell_73 ⟨Nat.le_trans (Nat.le_of_ble_eq_true rfl) hRc, Nat.le_trans (Nat.le_of_ble_eq_true rfl) hRs⟩) hS (fun H locs hM hS => ?_)
        refine W.eq (g2 := F0 m 76 ls []) rfl ?_
        refine lv_iinc (v := (v5 + 1)) (lv' := [(5, .int ((v5 + 1))), (0, va_rf v0), (2, .long v2), (4, va_rf v4)]) hx hb d_LR_tell_76 hl (k := 3) rfl rfl (by decide) (by simp [mx_cat, mx_cati, mx_catl, mx_catr]) (fun ls hl => ?_)
        refine lv_goto (tgt := 32) hx hb d_LR_tell_79 (by decide) ?_
        exact ih _ _ _ _ _ h _ _ _ (lv_sub hl [1, 2, 3, 0] rfl) hM hS
set_option maxHeartbeats 4000000 in
set_option maxRecDepth 100000 in
theorem c_LR_tell (l : Launch) (G : mx_G) (a0 : Nat) (v1 : Int32) (v2 : Int64) (mem : mx_Mem) (q : Int32 × mx_Mem) (h : f_LR_tell a0 v1 v2 mem = some q) : Met l y_LR_tell (gq_w y_LR_tell b_LR_tell 6 (some .int)) { frames := 4, cells := 0, slots := 0, locals := 80 } (gq_P G [.ref a0, .int v1, .long v2] mem) (gq_Q G (some (.int q.1)) q.2) 0 0 (mx_A G) := by
  refine Met.ofW (cc := b_LR_tell) (maxL := 6) (ret := (some .int)) (by decide) rfl ?_
  intro p e s m args below meth c s₁ B hml hv
  obtain ⟨rfl, hb0, hM, hK, hN⟩ := hv
  have CX : gq_C p (headSpec (gq_w y_LR_tell b_LR_tell 6 (some .int)) { frames := 4, cells := 0, slots := 0, locals := 80 }).room s m _ meth c G b_LR_tell 6 (some .int) R_LR 4 0 0 80 := ⟨B.exec, B.bytes, hml, B.returns, findClass_of_methodNamed B.named, fun w hw => atoms_spec (ws := gq_w y_LR_tell b_LR_tell 6 (some .int)) B.pre w (List.mem_cons_of_mem _ hw), B.notSynchronized, hK, hN, hb0, Nat.le_refl _, Nat.le_refl _, Nat.le_refl _, Nat.le_refl _⟩
  obtain ⟨hx, hb, hml, hr, hown, hts, hlocks, hK, hN, hb0, hRf, hRc, hRs, hRl⟩ := id CX
  have hS : va_S (mx_A G) s.heap s.heap [] := va_S.rf
  have hl := lv_entry [.ref a0, .int v1, .long v2] (n := 6) (Nat.le_of_ble_eq_true rfl)
  rw [lg_entry_eq]
  generalize (lg_sl [.ref a0, .int v1, .long v2] ++ List.replicate (6 - (lg_sl [.ref a0, .int v1, .long v2]).length) Slot.unset).toArray = ls at hl ⊢
  have hl : lv_has ls 6 [(0, va_rf (some a0)), (1, .int v1), (2, .long v2)] := hl
  unfold f_LR_tell at h
  refine mx_aload_n hx hb d_LR_tell_0 rfl (lv_at hl 0 rfl) ?_
  refine lv_iload_n hx hb d_LR_tell_1 rfl (lv_at hl 1 rfl) ?_
  obtain ⟨a4, e3, h⟩ := mx_b h
  obtain ⟨q1, e2, h⟩ := mx_b h
  have e5 := mx_c_eq e3
  refine W.eq (g2 := F0 m 2 ls [.int v1, .ref a4]) (congrArg (fun z => F0 m 2 ls [.int v1, va_rf z]) e5) ?_
  refine gq_go (va_runV (b := a4) (As := [.int v1]) (rest := []) ⟨hx, hb, hml, hown, hts⟩ (c_LR_findLine l G a4 v1 _ _ e2) (cwV 1 hts (gq_gV wd_123 wd_124 wd_125 wd_38 wd_122) rfl rfl rfl (by decide +kernel) ⟨Nat.le_trans (Nat.le_of_ble_eq_true rfl) hRf, Nat.le_trans (Nat.le_of_ble_eq_true rfl) hRl⟩) (gq_preV hK hN hM hS hb0 e3 (C := R_LR) (T := T_LR) (N := 5) rfl) rfl rfl hl.1 rfl (lv_room (Nat.le_of_ble_eq_true rfl)) d_LR_tell_2 ⟨Nat.le_trans (Nat.le_of_ble_eq_true rfl) hRc, Nat.le_trans (Nat.le_of_ble_eq_true rfl) hRs⟩) hS (fun H locs hM hS => ?_)
  refine W.eq (g2 := F0 m 5 ls [va_rf q1.1]) rfl ?_
  refine mx_astore (lv' := [(4, va_rf q1.1), (0, va_rf (some a0)), (1, .int v1), (2, .long v2)]) hx hb d_LR_tell_5 hl (by decide) rfl (fun ls hl => ?_)
  refine mx_aload hx hb d_LR_tell_7 (lv_at hl 0 rfl) ?_
  refine mx_ifnonnull (tgt := 15) hx hb d_LR_tell_9 (by decide) (fun c6 => ?_) (fun c6 => ?_)
  · rw [if_neg c6] at h
    refine lv_lload_n hx hb d_LR_tell_15 rfl (lv_at hl 3 rfl) ?_
    refine lv_lconst (v := 0) hx hb d_LR_tell_16 (by decide) ?_
    refine lv_ldc2 (v := 2000) hx hb hown (hts _ wd_188) d_LR_tell_17 ?_
    obtain ⟨q7, e8, h⟩ := mx_b h
    refine gq_go (va_runS (As := [.long v2, .long 0, .long 2000]) (rest := []) ⟨hx, hb, hml, hown, hts⟩ (c_LR_isWithin l G v2 0 2000 _ _ e8) (cwS 3 hts (gq_gS wd_36 wd_37 wd_38 wd_35) rfl rfl rfl (by decide +kernel) ⟨Nat.le_trans (Nat.le_of_ble_eq_true rfl) hRf, Nat.le_trans (Nat.le_of_ble_eq_true rfl) hRl⟩) (gq_preS hK hN hM hS hb0) rfl rfl hl.1 rfl (lv_room (Nat.le_of_ble_eq_true rfl)) d_LR_tell_20 ⟨Nat.le_trans (Nat.le_of_ble_eq_true rfl) hRc, Nat.le_trans (Nat.le_of_ble_eq_true rfl) hRs⟩) hS (fun H locs hM hS => ?_)
    refine W.eq (g2 := F0 m 23 ls [.int q7.1]) rfl ?_
    refine lv_if_ne (tgt := 29) hx hb d_LR_tell_23 (by decide) (fun c10 => ?_) (fun c10 => ?_)
    · rw [if_neg c10] at h
      refine lv_iconst (v := 0) hx hb d_LR_tell_29 (by decide) ?_
      refine lv_istore (lv' := [(5, .int 0), (4, va_rf q1.1), (0, va_rf (some a0)), (1, .int v1), (2, .long v2)]) hx hb d_LR_tell_30 hl (by decide) (by simp [mx_cat, mx_cati, mx_catl, mx_catr]) (fun ls hl => ?_)
      refine wfl_LR_tell_32 q CX  5000 _ _ _ _ _ h _ _ _ (lv_sub hl [2, 4, 1, 0] rfl) hM hS
    · rw [if_pos c10] at h
      refine lv_bipush (v := (-12)) hx hb d_LR_tell_26 (by decide) ?_
      cases h
      exact W.iret hx hb hr (fun t ht hW => ⟨⟨rfl, by rw [ht]; exact hM⟩, hS.F ht⟩) hS.2.2 d_LR_tell_28
  · rw [if_pos c6] at h
    refine lv_bipush (v := (-11)) hx hb d_LR_tell_12 (by decide) ?_
    cases h
    exact W.iret hx hb hr (fun t ht hW => ⟨⟨rfl, by rw [ht]; exact hM⟩, hS.F ht⟩) hS.2.2 d_LR_tell_14
set_option maxHeartbeats 4000000 in
set_option maxRecDepth 100000 in
theorem wfl_Mo_tell_37 {p : Program} {l : Launch} {e : Env} {R : Room} {s : State} {m : MethodId} {args : Array Value} {below : List Frame} {meth : Method} {c : Code} {G : mx_G} (q : Int32 × mx_Mem) (CX : gq_C p R s m args meth c G b_Mo_tell 7 (some .int) R_Mo 3 0 0 76) {k0 : Option Nat → Int32 → Int64 → mx_Mem → Option (Int32 × mx_Mem)} (hk0 : ∀ (v0 : Option Nat) (v1 : Int32) (v2 : Int64) (mem : mx_Mem), k0 v0 v1 v2 mem = some q → ∀ (H : Heap) (locs : List Loc) (ls : Array Slot), lv_has ls 7 [(0, va_rf v0), (1, .int v1), (2, .long v2)] → mx_M vwCl G mem H → va_S (mx_A G) s.heap H locs → W p l e R s m args below meth c H locs 0 0 (MQ below (gq_Q G (some (.int q.1)) q.2) args s 0 0 (mx_A G)) (F0 m 66 ls [])) : ∀ (n : Nat) (v0 : Option Nat) (v1 : Int32) (v2 : Int64) (v4 : Int32) (mem : mx_Mem), fl_Mo_tell_37 k0 n v0 v1 v2 v4 mem = some q → ∀ (H : Heap) (locs : List Loc) (ls : Array Slot), lv_has ls 7 [(0, va_rf v0), (1, .int v1), (2, .long v2), (4, .int v4)] → mx_M vwCl G mem H → va_S (mx_A G) s.heap H locs → W p l e R s m args below meth c H locs 0 0 (MQ below (gq_Q G (some (.int q.1)) q.2) args s 0 0 (mx_A G)) (F0 m 37 ls []) := by
  obtain ⟨hx, hb, hml, hr, hown, hts, hlocks, hK, hN, hb0, hRf, hRc, hRs, hRl⟩ := id CX
  intro n
  induction n with
  | zero => intro v0 v1 v2 v4 mem h; rw [fl_Mo_tell_37] at h; cases h
  | succ n ih =>
    intro v0 v1 v2 v4 mem h H locs ls hl hM hS
    rw [fl_Mo_tell_37] at h
    refine lv_iload hx hb d_Mo_tell_37 (lv_at hl 3 rfl) ?_
    refine mx_aload_n hx hb d_Mo_tell_39 rfl (lv_at hl 0 rfl) ?_
    obtain ⟨x1, e2, h⟩ := mx_b h
    refine mx_geti hx hb hts i_Mo hown hK hM e2 (ci := 4) (C := R_Mo) (T := T_Mo) (N := 23) rfl 9 (by decide) (hts _ wd_142) d_Mo_tell_40 ?_
    refine lv_icmp_gt (tgt := 66) hx hb d_Mo_tell_43 (by decide) (fun c3 => ?_) (fun c3 => ?_)
    · rw [if_pos c3] at h
      exact hk0 _ _ _ _ h _ _ _ (lv_sub hl [0, 1, 2] rfl) hM hS
    · rw [if_neg c3] at h
      refine mx_aload_n hx hb d_Mo_tell_46 rfl (lv_at hl 0 rfl) ?_
      obtain ⟨x4, e5, h⟩ := mx_b h
      refine mx_getr hx hb hts i_Mo hown hK hM e5 (ci := 4) (C := R_Mo) (T := T_Mo) (N := 23) rfl 22 (by decide) (hts _ wd_33) d_Mo_tell_47 ?_
      refine lv_iload hx hb d_Mo_tell_50 (lv_at hl 3 rfl) ?_
      refine mx_aload_n hx hb d_Mo_tell_52 rfl (lv_at hl 0 rfl) ?_
      obtain ⟨x6, e7, h⟩ := mx_b h
      refine mx_getr hx hb hts i_Mo hown hK hM e7 (ci := 4) (C := R_Mo) (T := T_Mo) (N := 23) rfl 19 (by decide) (hts _ wd_29) d_Mo_tell_53 ?_
      refine lv_iload hx hb d_Mo_tell_56 (lv_at hl 3 rfl) ?_
      obtain ⟨x8, e9, h⟩ := mx_b h
      refine mx_lald hx hb hK hM e9 rfl d_Mo_tell_58 ?_
      obtain ⟨m11, e10, h⟩ := mx_b h
      refine mx_last hx hb hK hM hS e10 rfl d_Mo_tell_59 (fun H locs hM hS => ?_)
      refine lv_iinc (v := (v4 + 1)) (lv' := [(4, .int ((v4 + 1))), (0, va_rf v0), (1, .int v1), (2, .long v2)]) hx hb d_Mo_tell_60 hl (k := 3) rfl rfl (by decide) rfl (fun ls hl => ?_)
      refine lv_goto (tgt := 37) hx hb d_Mo_tell_63 (by decide) ?_
      exact ih _ _ _ _ _ h _ _ _ (lv_sub hl [1, 2, 3, 0] rfl) hM hS
set_option maxHeartbeats 4000000 in
set_option maxRecDepth 100000 in
theorem wfl_Mo_tell_106 {p : Program} {l : Launch} {e : Env} {R : Room} {s : State} {m : MethodId} {args : Array Value} {below : List Frame} {meth : Method} {c : Code} {G : mx_G} (q : Int32 × mx_Mem) (CX : gq_C p R s m args meth c G b_Mo_tell 7 (some .int) R_Mo 3 0 0 76) {k0 : Option Nat → Int32 → Int32 → Int32 → mx_Mem → Option (Int32 × mx_Mem)} (hk0 : ∀ (v0 : Option Nat) (v1 : Int32) (v4 : Int32) (v5 : Int32) (mem : mx_Mem), k0 v0 v1 v4 v5 mem = some q → ∀ (H : Heap) (locs : List Loc) (ls : Array Slot), lv_has ls 7 [(0, va_rf v0), (1, .int v1), (4, .int v4), (5, .int v5)] → mx_M vwCl G mem H → va_S (mx_A G) s.heap H locs → W p l e R s m args below meth c H locs 0 0 (MQ below (gq_Q G (some (.int q.1)) q.2) args s 0 0 (mx_A G)) (F0 m 152 ls [])) : ∀ (n : Nat) (v0 : Option Nat) (v1 : Int32) (v4 : Int32) (v5 : Int32) (v6 : Int32) (mem : mx_Mem), fl_Mo_tell_106 k0 n v0 v1 v4 v5 v6 mem = some q → ∀ (H : Heap) (locs : List Loc) (ls : Array Slot), lv_has ls 7 [(0, va_rf v0), (1, .int v1), (4, .int v4), (5, .int v5), (6, .int v6)] → mx_M vwCl G mem H → va_S (mx_A G) s.heap H locs → W p l e R s m args below meth c H locs 0 0 (MQ below (gq_Q G (some (.int q.1)) q.2) args s 0 0 (mx_A G)) (F0 m 106 ls []) := by
  obtain ⟨hx, hb, hml, hr, hown, hts, hlocks, hK, hN, hb0, hRf, hRc, hRs, hRl⟩ := id CX
  intro n
  induction n with
  | zero => intro v0 v1 v4 v5 v6 mem h; rw [fl_Mo_tell_106] at h; cases h
  | succ n ih =>
    intro v0 v1 v4 v5 v6 mem h H locs ls hl hM hS
    rw [fl_Mo_tell_106] at h
    refine lv_iload hx hb d_Mo_tell_106 (lv_at hl 4 rfl) ?_
    refine mx_aload_n hx hb d_Mo_tell_108 rfl (lv_at hl 0 rfl) ?_
    obtain ⟨x1, e2, h⟩ := mx_b h
    refine mx_getr hx hb hts i_Mo hown hK hM e2 (ci := 4) (C := R_Mo) (T := T_Mo) (N := 23) rfl 14 (by decide) (hts _ wd_24) d_Mo_tell_109 ?_
    refine lv_iload hx hb d_Mo_tell_112 (lv_at hl 2 rfl) ?_
    obtain ⟨x3, e4, h⟩ := mx_b h
    refine mx_iald hx hb hK hM e4 rfl d_Mo_tell_114 ?_
    refine lv_icmp_ge (tgt := 152) hx hb d_Mo_tell_115 (by decide) (fun c5 => ?_) (fun c5 => ?_)
    · rw [if_pos c5] at h
      exact hk0 _ _ _ _ _ h _ _ _ (lv_sub hl [0, 1, 2, 3] rfl) hM hS
    · rw [if_neg c5] at h
      refine lv_iload hx hb d_Mo_tell_118 (lv_at hl 3 rfl) ?_
      refine lv_if_ne (tgt := 139) hx hb d_Mo_tell_120 (by decide) (fun c6 => ?_) (fun c6 => ?_)
      · rw [if_neg c6] at h
        refine lv_iconst (v := 1) hx hb d_Mo_tell_139 (by decide) ?_
        refine lv_goto (tgt := 144) hx hb d_Mo_tell_140 (by decide) ?_
        refine lv_istore (lv' := [(5, .int 1), (0, va_rf v0), (1, .int v1), (4, .int v4), (6, .int v6)]) hx hb d_Mo_tell_144 hl (by decide) rfl (fun ls hl => ?_)
        refine lv_iinc (v := (v6 + 1)) (lv' := [(6, .int ((v6 + 1))), (5, .int 1), (0, va_rf v0), (1, .int v1), (4, .int v4)]) hx hb d_Mo_tell_146 hl (k := 4) rfl rfl (by decide) rfl (fun ls hl => ?_)
        refine lv_goto (tgt := 106) hx hb d_Mo_tell_149 (by decide) ?_
        exact ih _ _ _ _ _ _ h _ _ _ (lv_sub hl [2, 3, 4, 1, 0] rfl) hM hS
      · rw [if_pos c6] at h
        refine mx_aload_n hx hb d_Mo_tell_123 rfl (lv_at hl 0 rfl) ?_
        obtain ⟨x7, e8, h⟩ := mx_b h
        refine mx_getr hx hb hts i_Mo hown hK hM e8 (ci := 4) (C := R_Mo) (T := T_Mo) (N := 23) rfl 17 (by decide) (hts _ wd_27) d_Mo_tell_124 ?_
        refine lv_iconst (v := 4) hx hb d_Mo_tell_127 (by decide) ?_
        refine lv_iload hx hb d_Mo_tell_128 (lv_at hl 2 rfl) ?_
        refine lv_imul hx hb d_Mo_tell_130 ?_
        refine lv_iload hx hb d_Mo_tell_131 (lv_at hl 4 rfl) ?_
        refine lv_iadd hx hb d_Mo_tell_133 ?_
        obtain ⟨x9, e10, h⟩ := mx_b h
        refine mx_iald hx hb hK hM e10 rfl d_Mo_tell_134 ?_
        refine lv_iload_n hx hb d_Mo_tell_135 rfl (lv_at hl 1 rfl) ?_
        refine lv_icmp_ne (tgt := 143) hx hb d_Mo_tell_136 (by decide) (fun c11 => ?_) (fun c11 => ?_)
        · rw [if_neg c11] at h
          refine lv_iconst (v := 0) hx hb d_Mo_tell_143 (by decide) ?_
          refine lv_istore (lv' := [(5, .int 0), (0, va_rf v0), (1, .int v1), (4, .int v4), (6, .int v6)]) hx hb d_Mo_tell_144 hl (by decide) rfl (fun ls hl => ?_)
          refine lv_iinc (v := (v6 + 1)) (lv' := [(6, .int ((v6 + 1))), (5, .int 0), (0, va_rf v0), (1, .int v1), (4, .int v4)]) hx hb d_Mo_tell_146 hl (k := 4) rfl rfl (by decide) rfl (fun ls hl => ?_)
          refine lv_goto (tgt := 106) hx hb d_Mo_tell_149 (by decide) ?_
          exact ih _ _ _ _ _ _ h _ _ _ (lv_sub hl [2, 3, 4, 1, 0] rfl) hM hS
        · rw [if_pos c11] at h
          refine lv_iconst (v := 1) hx hb d_Mo_tell_139 (by decide) ?_
          refine lv_goto (tgt := 144) hx hb d_Mo_tell_140 (by decide) ?_
          refine lv_istore (lv' := [(5, .int 1), (0, va_rf v0), (1, .int v1), (4, .int v4), (6, .int v6)]) hx hb d_Mo_tell_144 hl (by decide) rfl (fun ls hl => ?_)
          refine lv_iinc (v := (v6 + 1)) (lv' := [(6, .int ((v6 + 1))), (5, .int 1), (0, va_rf v0), (1, .int v1), (4, .int v4)]) hx hb d_Mo_tell_146 hl (k := 4) rfl rfl (by decide) rfl (fun ls hl => ?_)
          refine lv_goto (tgt := 106) hx hb d_Mo_tell_149 (by decide) ?_
          exact ih _ _ _ _ _ _ h _ _ _ (lv_sub hl [2, 3, 4, 1, 0] rfl) hM hS
set_option maxHeartbeats 4000000 in
set_option maxRecDepth 100000 in
theorem wfl_Mo_tell_76 {p : Program} {l : Launch} {e : Env} {R : Room} {s : State} {m : MethodId} {args : Array Value} {below : List Frame} {meth : Method} {c : Code} {G : mx_G} (q : Int32 × mx_Mem) (CX : gq_C p R s m args meth c G b_Mo_tell 7 (some .int) R_Mo 3 0 0 76) {k0 : Option Nat → mx_Mem → Option (Int32 × mx_Mem)} (hk0 : ∀ (v0 : Option Nat) (mem : mx_Mem), k0 v0 mem = some q → ∀ (H : Heap) (locs : List Loc) (ls : Array Slot), lv_has ls 7 [(0, va_rf v0)] → mx_M vwCl G mem H → va_S (mx_A G) s.heap H locs → W p l e R s m args below meth c H locs 0 0 (MQ below (gq_Q G (some (.int q.1)) q.2) args s 0 0 (mx_A G)) (F0 m 181 ls [])) : ∀ (n : Nat) (v0 : Option Nat) (v1 : Int32) (v4 : Int32) (mem : mx_Mem), fl_Mo_tell_76 k0 n v0 v1 v4 mem = some q → ∀ (H : Heap) (locs : List Loc) (ls : Array Slot), lv_has ls 7 [(0, va_rf v0), (1, .int v1), (4, .int v4)] → mx_M vwCl G mem H → va_S (mx_A G) s.heap H locs → W p l e R s m args below meth c H locs 0 0 (MQ below (gq_Q G (some (.int q.1)) q.2) args s 0 0 (mx_A G)) (F0 m 76 ls []) := by
  obtain ⟨hx, hb, hml, hr, hown, hts, hlocks, hK, hN, hb0, hRf, hRc, hRs, hRl⟩ := id CX
  intro n
  induction n with
  | zero => intro v0 v1 v4 mem h; rw [fl_Mo_tell_76] at h; cases h
  | succ n ih =>
    intro v0 v1 v4 mem h H locs ls hl hM hS
    rw [fl_Mo_tell_76] at h
    refine lv_iload hx hb d_Mo_tell_76 (lv_at hl 2 rfl) ?_
    refine mx_aload_n hx hb d_Mo_tell_78 rfl (lv_at hl 0 rfl) ?_
    obtain ⟨x1, e2, h⟩ := mx_b h
    refine mx_geti hx hb hts i_Mo hown hK hM e2 (ci := 4) (C := R_Mo) (T := T_Mo) (N := 23) rfl 9 (by decide) (hts _ wd_142) d_Mo_tell_79 ?_
    refine lv_icmp_gt (tgt := 181) hx hb d_Mo_tell_82 (by decide) (fun c3 => ?_) (fun c3 => ?_)
    · rw [if_pos c3] at h
      exact hk0 _ _ h _ _ _ (lv_sub hl [0] rfl) hM hS
    · rw [if_neg c3] at h
      refine mx_aload_n hx hb d_Mo_tell_85 rfl (lv_at hl 0 rfl) ?_
      obtain ⟨x4, e5, h⟩ := mx_b h
      refine mx_getr hx hb hts i_Mo hown hK hM e5 (ci := 4) (C := R_Mo) (T := T_Mo) (N := 23) rfl 10 (by decide) (hts _ wd_20) d_Mo_tell_86 ?_
      refine lv_iload hx hb d_Mo_tell_89 (lv_at hl 2 rfl) ?_
      obtain ⟨x6, e7, h⟩ := mx_b h
      refine mx_iald hx hb hK hM e7 rfl d_Mo_tell_91 ?_
      refine lv_iload_n hx hb d_Mo_tell_92 rfl (lv_at hl 1 rfl) ?_
      refine lv_icmp_ne (tgt := 100) hx hb d_Mo_tell_93 (by decide) (fun c8 => ?_) (fun c8 => ?_)
      · rw [if_neg c8] at h
        refine lv_iconst (v := 0) hx hb d_Mo_tell_100 (by decide) ?_
        refine lv_istore (lv' := [(5, .int 0), (0, va_rf v0), (1, .int v1), (4, .int v4)]) hx hb d_Mo_tell_101 hl (by decide) rfl (fun ls hl => ?_)
        refine lv_iconst (v := 0) hx hb d_Mo_tell_103 (by decide) ?_
        refine lv_istore (lv' := [(6, .int 0), (5, .int 0), (0, va_rf v0), (1, .int v1), (4, .int v4)]) hx hb d_Mo_tell_104 hl (by decide) rfl (fun ls hl => ?_)
        refine wfl_Mo_tell_106 q CX ?_ 5000 _ _ _ _ _ _ h _ _ _ (lv_sub hl [2, 3, 4, 1, 0] rfl) hM hS
        · intro v0 v1 v4 v5 m9 h H locs ls hl hM hS
          refine mx_aload_n hx hb d_Mo_tell_152 rfl (lv_at hl 0 rfl) ?_
          obtain ⟨x10, e11, h⟩ := mx_b h
          refine mx_getr hx hb hts i_Mo hown hK hM e11 (ci := 4) (C := R_Mo) (T := T_Mo) (N := 23) rfl 15 (by decide) (hts _ wd_25) d_Mo_tell_153 ?_
          refine lv_iload hx hb d_Mo_tell_156 (lv_at hl 2 rfl) ?_
          refine lv_iload hx hb d_Mo_tell_158 (lv_at hl 3 rfl) ?_
          refine lv_if_eq (tgt := 167) hx hb d_Mo_tell_160 (by decide) (fun c12 => ?_) (fun c12 => ?_)
          · rw [if_pos c12] at h
            refine mx_aload_n hx hb d_Mo_tell_167 rfl (lv_at hl 0 rfl) ?_
            obtain ⟨x13, e14, h⟩ := mx_b h
            refine mx_getr hx hb hts i_Mo hown hK hM e14 (ci := 4) (C := R_Mo) (T := T_Mo) (N := 23) rfl 15 (by decide) (hts _ wd_25) d_Mo_tell_168 ?_
            refine lv_iload hx hb d_Mo_tell_171 (lv_at hl 2 rfl) ?_
            obtain ⟨x15, e16, h⟩ := mx_b h
            refine mx_iald hx hb hK hM e16 rfl d_Mo_tell_173 ?_
            obtain ⟨m18, e17, h⟩ := mx_b h
            refine mx_iast hx hb hK hM hS e17 rfl d_Mo_tell_174 (fun H locs hM hS => ?_)
            refine lv_iinc (v := (v4 + 1)) (lv' := [(4, .int ((v4 + 1))), (0, va_rf v0), (1, .int v1), (5, .int v5)]) hx hb d_Mo_tell_175 hl (k := 2) rfl rfl (by decide) rfl (fun ls hl => ?_)
            refine lv_goto (tgt := 76) hx hb d_Mo_tell_178 (by decide) ?_
            exact ih _ _ _ _ h _ _ _ (lv_sub hl [1, 2, 0] rfl) hM hS
          · rw [if_neg c12] at h
            refine lv_iconst (v := 0) hx hb d_Mo_tell_163 (by decide) ?_
            refine lv_goto (tgt := 174) hx hb d_Mo_tell_164 (by decide) ?_
            obtain ⟨m14, e13, h⟩ := mx_b h
            refine mx_iast hx hb hK hM hS e13 rfl d_Mo_tell_174 (fun H locs hM hS => ?_)
            refine lv_iinc (v := (v4 + 1)) (lv' := [(4, .int ((v4 + 1))), (0, va_rf v0), (1, .int v1), (5, .int v5)]) hx hb d_Mo_tell_175 hl (k := 2) rfl rfl (by decide) rfl (fun ls hl => ?_)
            refine lv_goto (tgt := 76) hx hb d_Mo_tell_178 (by decide) ?_
            exact ih _ _ _ _ h _ _ _ (lv_sub hl [1, 2, 0] rfl) hM hS
      · rw [if_pos c8] at h
        refine lv_iconst (v := 1) hx hb d_Mo_tell_96 (by decide) ?_
        refine lv_goto (tgt := 101) hx hb d_Mo_tell_97 (by decide) ?_
        refine lv_istore (lv' := [(5, .int 1), (0, va_rf v0), (1, .int v1), (4, .int v4)]) hx hb d_Mo_tell_101 hl (by decide) rfl (fun ls hl => ?_)
        refine lv_iconst (v := 0) hx hb d_Mo_tell_103 (by decide) ?_
        refine lv_istore (lv' := [(6, .int 0), (5, .int 1), (0, va_rf v0), (1, .int v1), (4, .int v4)]) hx hb d_Mo_tell_104 hl (by decide) rfl (fun ls hl => ?_)
        refine wfl_Mo_tell_106 q CX ?_ 5000 _ _ _ _ _ _ h _ _ _ (lv_sub hl [2, 3, 4, 1, 0] rfl) hM hS
        · intro v0 v1 v4 v5 m9 h H locs ls hl hM hS
          refine mx_aload_n hx hb d_Mo_tell_152 rfl (lv_at hl 0 rfl) ?_
          obtain ⟨x10, e11, h⟩ := mx_b h
          refine mx_getr hx hb hts i_Mo hown hK hM e11 (ci := 4) (C := R_Mo) (T := T_Mo) (N := 23) rfl 15 (by decide) (hts _ wd_25) d_Mo_tell_153 ?_
          refine lv_iload hx hb d_Mo_tell_156 (lv_at hl 2 rfl) ?_
          refine lv_iload hx hb d_Mo_tell_158 (lv_at hl 3 rfl) ?_
          refine lv_if_eq (tgt := 167) hx hb d_Mo_tell_160 (by decide) (fun c12 => ?_) (fun c12 => ?_)
          · rw [if_pos c12] at h
            refine mx_aload_n hx hb d_Mo_tell_167 rfl (lv_at hl 0 rfl) ?_
            obtain ⟨x13, e14, h⟩ := mx_b h
            refine mx_getr hx hb hts i_Mo hown hK hM e14 (ci := 4) (C := R_Mo) (T := T_Mo) (N := 23) rfl 15 (by decide) (hts _ wd_25) d_Mo_tell_168 ?_
            refine lv_iload hx hb d_Mo_tell_171 (lv_at hl 2 rfl) ?_
            obtain ⟨x15, e16, h⟩ := mx_b h
            refine mx_iald hx hb hK hM e16 rfl d_Mo_tell_173 ?_
            obtain ⟨m18, e17, h⟩ := mx_b h
            refine mx_iast hx hb hK hM hS e17 rfl d_Mo_tell_174 (fun H locs hM hS => ?_)
            refine lv_iinc (v := (v4 + 1)) (lv' := [(4, .int ((v4 + 1))), (0, va_rf v0), (1, .int v1), (5, .int v5)]) hx hb d_Mo_tell_175 hl (k := 2) rfl rfl (by decide) rfl (fun ls hl => ?_)
            refine lv_goto (tgt := 76) hx hb d_Mo_tell_178 (by decide) ?_
            exact ih _ _ _ _ h _ _ _ (lv_sub hl [1, 2, 0] rfl) hM hS
          · rw [if_neg c12] at h
            refine lv_iconst (v := 0) hx hb d_Mo_tell_163 (by decide) ?_
            refine lv_goto (tgt := 174) hx hb d_Mo_tell_164 (by decide) ?_
            obtain ⟨m14, e13, h⟩ := mx_b h
            refine mx_iast hx hb hK hM hS e13 rfl d_Mo_tell_174 (fun H locs hM hS => ?_)
            refine lv_iinc (v := (v4 + 1)) (lv' := [(4, .int ((v4 + 1))), (0, va_rf v0), (1, .int v1), (5, .int v5)]) hx hb d_Mo_tell_175 hl (k := 2) rfl rfl (by decide) rfl (fun ls hl => ?_)
            refine lv_goto (tgt := 76) hx hb d_Mo_tell_178 (by decide) ?_
            exact ih _ _ _ _ h _ _ _ (lv_sub hl [1, 2, 0] rfl) hM hS
set_option maxHeartbeats 4000000 in
set_option maxRecDepth 100000 in
theorem wfl_Mo_tell_191 {p : Program} {l : Launch} {e : Env} {R : Room} {s : State} {m : MethodId} {args : Array Value} {below : List Frame} {meth : Method} {c : Code} {G : mx_G} (q : Int32 × mx_Mem) (CX : gq_C p R s m args meth c G b_Mo_tell 7 (some .int) R_Mo 3 0 0 76)  : ∀ (n : Nat) (v0 : Option Nat) (v4 : Int32) (v5 : Int32) (mem : mx_Mem), fl_Mo_tell_191  n v0 v4 v5 mem = some q → ∀ (H : Heap) (locs : List Loc) (ls : Array Slot), lv_has ls 7 [(0, va_rf v0), (4, .int v4), (5, .int v5)] → mx_M vwCl G mem H → va_S (mx_A G) s.heap H locs → W p l e R s m args below meth c H locs 0 0 (MQ below (gq_Q G (some (.int q.1)) q.2) args s 0 0 (mx_A G)) (F0 m 191 ls []) := by
  obtain ⟨hx, hb, hml, hr, hown, hts, hlocks, hK, hN, hb0, hRf, hRc, hRs, hRl⟩ := id CX
  intro n
  induction n with
  | zero => intro v0 v4 v5 mem h; rw [fl_Mo_tell_191] at h; cases h
  | succ n ih =>
    intro v0 v4 v5 mem h H locs ls hl hM hS
    rw [fl_Mo_tell_191] at h
    refine lv_iload hx hb d_Mo_tell_191 (lv_at hl 2 rfl) ?_
    refine mx_aload_n hx hb d_Mo_tell_193 rfl (lv_at hl 0 rfl) ?_
    obtain ⟨x1, e2, h⟩ := mx_b h
    refine mx_geti hx hb hts i_Mo hown hK hM e2 (ci := 4) (C := R_Mo) (T := T_Mo) (N := 23) rfl 9 (by decide) (hts _ wd_142) d_Mo_tell_194 ?_
    refine lv_icmp_gt (tgt := 234) hx hb d_Mo_tell_197 (by decide) (fun c3 => ?_) (fun c3 => ?_)
    · rw [if_pos c3] at h
      refine lv_iload hx hb d_Mo_tell_234 (lv_at hl 1 rfl) ?_
      cases h
      exact W.iret hx hb hr (fun t ht hW => ⟨⟨rfl, by rw [ht]; exact hM⟩, hS.F ht⟩) hS.2.2 d_Mo_tell_236
    · rw [if_neg c3] at h
      refine lv_iload hx hb d_Mo_tell_200 (lv_at hl 1 rfl) ?_
      refine mx_aload_n hx hb d_Mo_tell_202 rfl (lv_at hl 0 rfl) ?_
      obtain ⟨x4, e5, h⟩ := mx_b h
      refine mx_getr hx hb hts i_Mo hown hK hM e5 (ci := 4) (C := R_Mo) (T := T_Mo) (N := 23) rfl 19 (by decide) (hts _ wd_29) d_Mo_tell_203 ?_
      refine lv_iload hx hb d_Mo_tell_206 (lv_at hl 2 rfl) ?_
      obtain ⟨x6, e7, h⟩ := mx_b h
      refine mx_lald hx hb hK hM e7 rfl d_Mo_tell_208 ?_
      refine mx_aload_n hx hb d_Mo_tell_209 rfl (lv_at hl 0 rfl) ?_
      obtain ⟨x8, e9, h⟩ := mx_b h
      refine mx_getr hx hb hts i_Mo hown hK hM e9 (ci := 4) (C := R_Mo) (T := T_Mo) (N := 23) rfl 22 (by decide) (hts _ wd_33) d_Mo_tell_210 ?_
      refine lv_iload hx hb d_Mo_tell_213 (lv_at hl 2 rfl) ?_
      obtain ⟨x10, e11, h⟩ := mx_b h
      refine mx_lald hx hb hK hM e11 rfl d_Mo_tell_215 ?_
      refine mx_lcmp_eq (tgt := 224) hx hb d_Mo_tell_216 d_Mo_tell_217 (by decide) (fun c12 => ?_) (fun c12 => ?_)
      · rw [if_pos c12] at h
        refine lv_iconst (v := 0) hx hb d_Mo_tell_224 (by decide) ?_
        refine lv_iadd hx hb d_Mo_tell_225 ?_
        refine lv_istore (lv' := [(4, .int ((v4 + 0))), (0, va_rf v0), (5, .int v5)]) hx hb d_Mo_tell_226 hl (by decide) rfl (fun ls hl => ?_)
        refine lv_iinc (v := (v5 + 1)) (lv' := [(5, .int ((v5 + 1))), (4, .int ((v4 + 0))), (0, va_rf v0)]) hx hb d_Mo_tell_228 hl (k := 2) rfl rfl (by decide) rfl (fun ls hl => ?_)
        refine lv_goto (tgt := 191) hx hb d_Mo_tell_231 (by decide) ?_
        exact ih _ _ _ _ h _ _ _ (lv_sub hl [2, 1, 0] rfl) hM hS
      · rw [if_neg c12] at h
        refine lv_iconst (v := 1) hx hb d_Mo_tell_220 (by decide) ?_
        refine lv_goto (tgt := 225) hx hb d_Mo_tell_221 (by decide) ?_
        refine lv_iadd hx hb d_Mo_tell_225 ?_
        refine lv_istore (lv' := [(4, .int ((v4 + 1))), (0, va_rf v0), (5, .int v5)]) hx hb d_Mo_tell_226 hl (by decide) rfl (fun ls hl => ?_)
        refine lv_iinc (v := (v5 + 1)) (lv' := [(5, .int ((v5 + 1))), (4, .int ((v4 + 1))), (0, va_rf v0)]) hx hb d_Mo_tell_228 hl (k := 2) rfl rfl (by decide) rfl (fun ls hl => ?_)
        refine lv_goto (tgt := 191) hx hb d_Mo_tell_231 (by decide) ?_
        exact ih _ _ _ _ h _ _ _ (lv_sub hl [2, 1, 0] rfl) hM hS
set_option maxHeartbeats 4000000 in
set_option maxRecDepth 100000 in
theorem c_Mo_tell (l : Launch) (G : mx_G) (a0 : Nat) (v1 : Int32) (v2 : Int64) (mem : mx_Mem) (q : Int32 × mx_Mem) (h : f_Mo_tell a0 v1 v2 mem = some q) : Met l y_Mo_tell (gq_w y_Mo_tell b_Mo_tell 7 (some .int)) { frames := 3, cells := 0, slots := 0, locals := 76 } (gq_P G [.ref a0, .int v1, .long v2] mem) (gq_Q G (some (.int q.1)) q.2) 0 0 (mx_A G) := by
  refine Met.ofW (cc := b_Mo_tell) (maxL := 7) (ret := (some .int)) (by decide) rfl ?_
  intro p e s m args below meth c s₁ B hml hv
  obtain ⟨rfl, hb0, hM, hK, hN⟩ := hv
  have CX : gq_C p (headSpec (gq_w y_Mo_tell b_Mo_tell 7 (some .int)) { frames := 3, cells := 0, slots := 0, locals := 76 }).room s m _ meth c G b_Mo_tell 7 (some .int) R_Mo 3 0 0 76 := ⟨B.exec, B.bytes, hml, B.returns, findClass_of_methodNamed B.named, fun w hw => atoms_spec (ws := gq_w y_Mo_tell b_Mo_tell 7 (some .int)) B.pre w (List.mem_cons_of_mem _ hw), B.notSynchronized, hK, hN, hb0, Nat.le_refl _, Nat.le_refl _, Nat.le_refl _, Nat.le_refl _⟩
  obtain ⟨hx, hb, hml, hr, hown, hts, hlocks, hK, hN, hb0, hRf, hRc, hRs, hRl⟩ := id CX
  have hS : va_S (mx_A G) s.heap s.heap [] := va_S.rf
  have hl := lv_entry [.ref a0, .int v1, .long v2] (n := 7) (Nat.le_of_ble_eq_true rfl)
  rw [lg_entry_eq]
  generalize (lg_sl [.ref a0, .int v1, .long v2] ++ List.replicate (7 - (lg_sl [.ref a0, .int v1, .long v2]).length) Slot.unset).toArray = ls at hl ⊢
  have hl : lv_has ls 7 [(0, va_rf (some a0)), (1, .int v1), (2, .long v2)] := hl
  unfold f_Mo_tell at h
  refine mx_aload_n hx hb d_Mo_tell_0 rfl (lv_at hl 0 rfl) ?_
  refine lv_iconst (v := 0) hx hb d_Mo_tell_1 (by decide) ?_
  obtain ⟨m1, e2, h⟩ := mx_b h
  refine mx_put hx hb hts i_Mo t_Mo t_Mo_ok n_Mo hown hK hM hS e2 (ci := 4) (C := R_Mo) (T := T_Mo) (N := 23) rfl 0 (by decide) (hts _ wd_109) rfl (ty := .int) (by decide +kernel) rfl rfl d_Mo_tell_2 (fun H locs hM hS => ?_)
  refine mx_aload_n hx hb d_Mo_tell_5 rfl (lv_at hl 0 rfl) ?_
  refine lv_iload_n hx hb d_Mo_tell_6 rfl (lv_at hl 1 rfl) ?_
  obtain ⟨a6, e5, h⟩ := mx_b h
  obtain ⟨q3, e4, h⟩ := mx_b h
  have e7 := mx_c_eq e5
  refine W.eq (g2 := F0 m 7 ls [.int v1, .ref a6]) (congrArg (fun z => F0 m 7 ls [.int v1, va_rf z]) e7) ?_
  refine gq_go (va_runV (b := a6) (As := [.int v1]) (rest := []) ⟨hx, hb, hml, hown, hts⟩ (c_Mo_isLine l G a6 v1 _ _ e4) (cwV 1 hts (gq_gV wd_137 wd_138 wd_139 wd_114 wd_136) rfl rfl rfl (by decide +kernel) ⟨Nat.le_trans (Nat.le_of_ble_eq_true rfl) hRf, Nat.le_trans (Nat.le_of_ble_eq_true rfl) hRl⟩) (gq_preV hK hN hM hS hb0 e5 (C := R_Mo) (T := T_Mo) (N := 23) rfl) rfl rfl hl.1 rfl (lv_room (Nat.le_of_ble_eq_true rfl)) d_Mo_tell_7 ⟨Nat.le_trans (Nat.le_of_ble_eq_true rfl) hRc, Nat.le_trans (Nat.le_of_ble_eq_true rfl) hRs⟩) hS (fun H locs hM hS => ?_)
  refine W.eq (g2 := F0 m 10 ls [.int q3.1]) rfl ?_
  refine lv_if_ne (tgt := 16) hx hb d_Mo_tell_10 (by decide) (fun c8 => ?_) (fun c8 => ?_)
  · rw [if_neg c8] at h
    refine lv_lload_n hx hb d_Mo_tell_16 rfl (lv_at hl 2 rfl) ?_
    refine lv_lconst (v := 0) hx hb d_Mo_tell_17 (by decide) ?_
    refine lv_ldc2 (v := 2000) hx hb hown (hts _ wd_209) d_Mo_tell_18 ?_
    obtain ⟨q9, e10, h⟩ := mx_b h
    refine gq_go (va_runS (As := [.long v2, .long 0, .long 2000]) (rest := []) ⟨hx, hb, hml, hown, hts⟩ (c_Mo_in l G v2 0 2000 _ _ e10) (cwS 3 hts (gq_gS wd_112 wd_113 wd_114 wd_111) rfl rfl rfl (by decide +kernel) ⟨Nat.le_trans (Nat.le_of_ble_eq_true rfl) hRf, Nat.le_trans (Nat.le_of_ble_eq_true rfl) hRl⟩) (gq_preS hK hN hM hS hb0) rfl rfl hl.1 rfl (lv_room (Nat.le_of_ble_eq_true rfl)) d_Mo_tell_21 ⟨Nat.le_trans (Nat.le_of_ble_eq_true rfl) hRc, Nat.le_trans (Nat.le_of_ble_eq_true rfl) hRs⟩) hS (fun H locs hM hS => ?_)
    refine W.eq (g2 := F0 m 24 ls [.int q9.1]) rfl ?_
    refine lv_if_ne (tgt := 30) hx hb d_Mo_tell_24 (by decide) (fun c12 => ?_) (fun c12 => ?_)
    · rw [if_neg c12] at h
      refine mx_aload_n hx hb d_Mo_tell_30 rfl (lv_at hl 0 rfl) ?_
      obtain ⟨a16, e15, h⟩ := mx_b h
      obtain ⟨q13, e14, h⟩ := mx_b h
      have e17 := mx_c_eq e15
      refine W.eq (g2 := F0 m 31 ls [.ref a16]) (congrArg (fun z => F0 m 31 ls [va_rf z]) e17) ?_
      refine gq_go (va_runV (b := a16) (As := []) (rest := []) ⟨hx, hb, hml, hown, hts⟩ (c_Mo_reckon l G a16  _ _ e14) (cwV 0 hts (gq_gV wd_211 wd_212 wd_213 wd_114 wd_210) rfl rfl rfl (by decide +kernel) ⟨Nat.le_trans (Nat.le_of_ble_eq_true rfl) hRf, Nat.le_trans (Nat.le_of_ble_eq_true rfl) hRl⟩) (gq_preV hK hN hM hS hb0 e15 (C := R_Mo) (T := T_Mo) (N := 23) rfl) rfl rfl hl.1 rfl (lv_room (Nat.le_of_ble_eq_true rfl)) d_Mo_tell_31 ⟨Nat.le_trans (Nat.le_of_ble_eq_true rfl) hRc, Nat.le_trans (Nat.le_of_ble_eq_true rfl) hRs⟩) hS (fun H locs hM hS => ?_)
      refine W.eq (g2 := F0 m 34 ls []) rfl ?_
      refine lv_iconst (v := 1) hx hb d_Mo_tell_34 (by decide) ?_
      refine lv_istore (lv' := [(4, .int 1), (0, va_rf (some a0)), (1, .int v1), (2, .long v2)]) hx hb d_Mo_tell_35 hl (by decide) rfl (fun ls hl => ?_)
      refine wfl_Mo_tell_37 q CX ?_ 5000 _ _ _ _ _ h _ _ _ (lv_sub hl [1, 2, 3, 0] rfl) hM hS
      · intro v0 v1 v2 m18 h H locs ls hl hM hS
        refine mx_aload_n hx hb d_Mo_tell_66 rfl (lv_at hl 0 rfl) ?_
        obtain ⟨x19, e20, h⟩ := mx_b h
        refine mx_getr hx hb hts i_Mo hown hK hM e20 (ci := 4) (C := R_Mo) (T := T_Mo) (N := 23) rfl 6 (by decide) (hts _ wd_17) d_Mo_tell_67 ?_
        refine lv_iload_n hx hb d_Mo_tell_70 rfl (lv_at hl 1 rfl) ?_
        refine lv_lload_n hx hb d_Mo_tell_71 rfl (lv_at hl 2 rfl) ?_
        obtain ⟨m22, e21, h⟩ := mx_b h
        refine mx_last hx hb hK hM hS e21 rfl d_Mo_tell_72 (fun H locs hM hS => ?_)
        refine lv_iconst (v := 1) hx hb d_Mo_tell_73 (by decide) ?_
        refine lv_istore (lv' := [(4, .int 1), (0, va_rf v0), (1, .int v1), (2, .long v2)]) hx hb d_Mo_tell_74 hl (by decide) rfl (fun ls hl => ?_)
        refine wfl_Mo_tell_76 q CX ?_ 5000 _ _ _ _ h _ _ _ (lv_sub hl [1, 2, 0] rfl) hM hS
        · intro v0 m23 h H locs ls hl hM hS
          refine mx_aload_n hx hb d_Mo_tell_181 rfl (lv_at hl 0 rfl) ?_
          obtain ⟨a27, e26, h⟩ := mx_b h
          obtain ⟨q24, e25, h⟩ := mx_b h
          have e28 := mx_c_eq e26
          refine W.eq (g2 := F0 m 182 ls [.ref a27]) (congrArg (fun z => F0 m 182 ls [va_rf z]) e28) ?_
          refine gq_go (va_runV (b := a27) (As := []) (rest := []) ⟨hx, hb, hml, hown, hts⟩ (c_Mo_reckon l G a27  _ _ e25) (cwV 0 hts (gq_gV wd_211 wd_212 wd_213 wd_114 wd_210) rfl rfl rfl (by decide +kernel) ⟨Nat.le_trans (Nat.le_of_ble_eq_true rfl) hRf, Nat.le_trans (Nat.le_of_ble_eq_true rfl) hRl⟩) (gq_preV hK hN hM hS hb0 e26 (C := R_Mo) (T := T_Mo) (N := 23) rfl) rfl rfl hl.1 rfl (lv_room (Nat.le_of_ble_eq_true rfl)) d_Mo_tell_182 ⟨Nat.le_trans (Nat.le_of_ble_eq_true rfl) hRc, Nat.le_trans (Nat.le_of_ble_eq_true rfl) hRs⟩) hS (fun H locs hM hS => ?_)
          refine W.eq (g2 := F0 m 185 ls []) rfl ?_
          refine lv_iconst (v := 0) hx hb d_Mo_tell_185 (by decide) ?_
          refine lv_istore (lv' := [(4, .int 0), (0, va_rf v0)]) hx hb d_Mo_tell_186 hl (by decide) rfl (fun ls hl => ?_)
          refine lv_iconst (v := 1) hx hb d_Mo_tell_188 (by decide) ?_
          refine lv_istore (lv' := [(5, .int 1), (4, .int 0), (0, va_rf v0)]) hx hb d_Mo_tell_189 hl (by decide) rfl (fun ls hl => ?_)
          refine wfl_Mo_tell_191 q CX  5000 _ _ _ _ h _ _ _ (lv_sub hl [2, 1, 0] rfl) hM hS
    · rw [if_pos c12] at h
      refine lv_bipush (v := (-12)) hx hb d_Mo_tell_27 (by decide) ?_
      cases h
      exact W.iret hx hb hr (fun t ht hW => ⟨⟨rfl, by rw [ht]; exact hM⟩, hS.F ht⟩) hS.2.2 d_Mo_tell_29
  · rw [if_pos c8] at h
    refine lv_bipush (v := (-11)) hx hb d_Mo_tell_13 (by decide) ?_
    cases h
    exact W.iret hx hb hr (fun t ht hW => ⟨⟨rfl, by rw [ht]; exact hM⟩, hS.F ht⟩) hS.2.2 d_Mo_tell_15
set_option maxHeartbeats 4000000 in
set_option maxRecDepth 100000 in
theorem c_Lo_harm (l : Launch) (G : mx_G) (a0 : Nat) (mem : mx_Mem) (q : Int64 × mx_Mem) (h : f_Lo_harm a0 mem = some q) : Met l y_Lo_harm (gq_w y_Lo_harm b_Lo_harm 2 (some .long)) { frames := 2, cells := 0, slots := 0, locals := 35 } (gq_P G [.ref a0] mem) (gq_Q G (some (.long q.1)) q.2) 0 0 (mx_A G) := by
  refine Met.ofW (cc := b_Lo_harm) (maxL := 2) (ret := (some .long)) (by decide) rfl ?_
  intro p e s m args below meth c s₁ B hml hv
  obtain ⟨rfl, hb0, hM, hK, hN⟩ := hv
  have CX : gq_C p (headSpec (gq_w y_Lo_harm b_Lo_harm 2 (some .long)) { frames := 2, cells := 0, slots := 0, locals := 35 }).room s m _ meth c G b_Lo_harm 2 (some .long) R_Lo 2 0 0 35 := ⟨B.exec, B.bytes, hml, B.returns, findClass_of_methodNamed B.named, fun w hw => atoms_spec (ws := gq_w y_Lo_harm b_Lo_harm 2 (some .long)) B.pre w (List.mem_cons_of_mem _ hw), B.notSynchronized, hK, hN, hb0, Nat.le_refl _, Nat.le_refl _, Nat.le_refl _, Nat.le_refl _⟩
  obtain ⟨hx, hb, hml, hr, hown, hts, hlocks, hK, hN, hb0, hRf, hRc, hRs, hRl⟩ := id CX
  have hS : va_S (mx_A G) s.heap s.heap [] := va_S.rf
  have hl := lv_entry [.ref a0] (n := 2) (Nat.le_of_ble_eq_true rfl)
  rw [lg_entry_eq]
  generalize (lg_sl [.ref a0] ++ List.replicate (2 - (lg_sl [.ref a0]).length) Slot.unset).toArray = ls at hl ⊢
  have hl : lv_has ls 2 [(0, va_rf (some a0))] := hl
  unfold f_Lo_harm at h
  refine mx_aload_n hx hb d_Lo_harm_0 rfl (lv_at hl 0 rfl) ?_
  obtain ⟨a4, e3, h⟩ := mx_b h
  obtain ⟨q1, e2, h⟩ := mx_b h
  have e5 := mx_c_eq e3
  refine W.eq (g2 := F0 m 1 ls [.ref a4]) (congrArg (fun z => F0 m 1 ls [va_rf z]) e5) ?_
  refine gq_go (va_runV (b := a4) (As := []) (rest := []) ⟨hx, hb, hml, hown, hts⟩ (c_Lo_pickedOption l G a4  _ _ e2) (cwV 0 hts (gq_gV wd_63 wd_64 wd_65 wd_66 wd_62) rfl rfl rfl (by decide +kernel) ⟨Nat.le_trans (Nat.le_of_ble_eq_true rfl) hRf, Nat.le_trans (Nat.le_of_ble_eq_true rfl) hRl⟩) (gq_preV hK hN hM hS hb0 e3 (C := R_Lo) (T := T_Lo) (N := 12) rfl) rfl rfl hl.1 rfl (lv_room (Nat.le_of_ble_eq_true rfl)) d_Lo_harm_1 ⟨Nat.le_trans (Nat.le_of_ble_eq_true rfl) hRc, Nat.le_trans (Nat.le_of_ble_eq_true rfl) hRs⟩) hS (fun H locs hM hS => ?_)
  refine W.eq (g2 := F0 m 4 ls [va_rf q1.1]) rfl ?_
  refine mx_astore_n (lv' := [(1, va_rf q1.1), (0, va_rf (some a0))]) hx hb d_Lo_harm_4 rfl hl (by decide) (by simp [mx_cat, mx_cati, mx_catl, mx_catr]) (fun ls hl => ?_)
  refine mx_aload_n hx hb d_Lo_harm_5 rfl (lv_at hl 1 rfl) ?_
  obtain ⟨x6, e7, h⟩ := mx_b h
  refine mx_geti hx hb hts i_Lo hown hK hM e7 (ci := 3) (C := R_Lo) (T := T_Lo) (N := 12) rfl 3 (by decide) (hts _ wd_120) d_Lo_harm_6 ?_
  refine lv_i2l hx hb d_Lo_harm_9 rfl ?_
  refine mx_aload_n hx hb d_Lo_harm_10 rfl (lv_at hl 1 rfl) ?_
  obtain ⟨a11, e10, h⟩ := mx_b h
  obtain ⟨q8, e9, h⟩ := mx_b h
  have e12 := mx_c_eq e10
  refine W.eq (g2 := F0 m 11 ls [.ref a11, .long x6.toInt64]) (congrArg (fun z => F0 m 11 ls [va_rf z, .long x6.toInt64]) e12) ?_
  refine gq_go (va_runV (b := a11) (As := []) (rest := [.long x6.toInt64]) ⟨hx, hb, hml, hown, hts⟩ (c_Lo_minutesBehind l G a11  _ _ e9) (cwV 0 hts (gq_gV wd_235 wd_186 wd_187 wd_66 wd_184) rfl rfl rfl (by decide +kernel) ⟨Nat.le_trans (Nat.le_of_ble_eq_true rfl) hRf, Nat.le_trans (Nat.le_of_ble_eq_true rfl) hRl⟩) (gq_preV hK hN hM hS hb0 e10 (C := R_Lo) (T := T_Lo) (N := 12) rfl) rfl rfl hl.1 rfl (lv_room (Nat.le_of_ble_eq_true rfl)) d_Lo_harm_11 ⟨Nat.le_trans (Nat.le_of_ble_eq_true rfl) hRc, Nat.le_trans (Nat.le_of_ble_eq_true rfl) hRs⟩) hS (fun H locs hM hS => ?_)
  refine W.eq (g2 := F0 m 14 ls [.long q8.1, .long x6.toInt64]) rfl ?_
  refine lv_lmul hx hb d_Lo_harm_14 ?_
  refine mx_aload_n hx hb d_Lo_harm_15 rfl (lv_at hl 0 rfl) ?_
  refine mx_ifnonnull (tgt := 23) hx hb d_Lo_harm_16 (by decide) (fun c13 => ?_) (fun c13 => ?_)
  · rw [if_neg c13] at h
    refine mx_aload_n hx hb d_Lo_harm_23 rfl (lv_at hl 0 rfl) ?_
    obtain ⟨x14, e15, h⟩ := mx_b h
    refine mx_getlN hx hb hts i_Op hown hK hM e15 (ci := 2) (C := R_Op) (T := T_Op) (N := 3) rfl 2 (by decide) (va_Nw.use rfl (hN _ nw_15)) d_Lo_harm_24 ?_
    refine lv_ladd hx hb d_Lo_harm_27 ?_
    cases h
    exact W.lret hx hb hr (fun t ht hW => ⟨⟨rfl, by rw [ht]; exact hM⟩, hS.F ht⟩) hS.2.2 d_Lo_harm_28
  · rw [if_pos c13] at h
    refine lv_lconst (v := 0) hx hb d_Lo_harm_19 (by decide) ?_
    refine lv_goto (tgt := 27) hx hb d_Lo_harm_20 (by decide) ?_
    refine lv_ladd hx hb d_Lo_harm_27 ?_
    cases h
    exact W.lret hx hb hr (fun t ht hW => ⟨⟨rfl, by rw [ht]; exact hM⟩, hS.F ht⟩) hS.2.2 d_Lo_harm_28
set_option maxHeartbeats 4000000 in
set_option maxRecDepth 100000 in
theorem wfl_LR_sumHarm_4 {p : Program} {l : Launch} {e : Env} {R : Room} {s : State} {m : MethodId} {args : Array Value} {below : List Frame} {meth : Method} {c : Code} {G : mx_G} (q : Int64 × mx_Mem) (CX : gq_C p R s m args meth c G b_LR_sumHarm 4 (some .long) R_LR 3 0 0 56)  : ∀ (n : Nat) (v0 : Option Nat) (v1 : Int64) (v3 : Int32) (mem : mx_Mem), fl_LR_sumHarm_4  n v0 v1 v3 mem = some q → ∀ (H : Heap) (locs : List Loc) (ls : Array Slot), lv_has ls 4 [(0, va_rf v0), (1, .long v1), (3, .int v3)] → mx_M vwCl G mem H → va_S (mx_A G) s.heap H locs → W p l e R s m args below meth c H locs 0 0 (MQ below (gq_Q G (some (.long q.1)) q.2) args s 0 0 (mx_A G)) (F0 m 4 ls []) := by
  obtain ⟨hx, hb, hml, hr, hown, hts, hlocks, hK, hN, hb0, hRf, hRc, hRs, hRl⟩ := id CX
  intro n
  induction n with
  | zero => intro v0 v1 v3 mem h; rw [fl_LR_sumHarm_4] at h; cases h
  | succ n ih =>
    intro v0 v1 v3 mem h H locs ls hl hM hS
    rw [fl_LR_sumHarm_4] at h
    refine lv_iload_n hx hb d_LR_sumHarm_4 rfl (lv_at hl 2 rfl) ?_
    refine mx_aload_n hx hb d_LR_sumHarm_5 rfl (lv_at hl 0 rfl) ?_
    obtain ⟨x1, e2, h⟩ := mx_b h
    refine mx_geti hx hb hts i_LR hown hK hM e2 (ci := 0) (C := R_LR) (T := T_LR) (N := 5) rfl 4 (by decide) (hts _ wd_9) d_LR_sumHarm_6 ?_
    refine lv_icmp_ge (tgt := 30) hx hb d_LR_sumHarm_9 (by decide) (fun c3 => ?_) (fun c3 => ?_)
    · rw [if_pos c3] at h
      refine lv_lload_n hx hb d_LR_sumHarm_30 rfl (lv_at hl 1 rfl) ?_
      cases h
      exact W.lret hx hb hr (fun t ht hW => ⟨⟨rfl, by rw [ht]; exact hM⟩, hS.F ht⟩) hS.2.2 d_LR_sumHarm_31
    · rw [if_neg c3] at h
      refine lv_lload_n hx hb d_LR_sumHarm_12 rfl (lv_at hl 1 rfl) ?_
      refine mx_aload_n hx hb d_LR_sumHarm_13 rfl (lv_at hl 0 rfl) ?_
      obtain ⟨x4, e5, h⟩ := mx_b h
      refine mx_getr hx hb hts i_LR hown hK hM e5 (ci := 0) (C := R_LR) (T := T_LR) (N := 5) rfl 2 (by decide) (hts _ wd_6) d_LR_sumHarm_14 ?_
      refine lv_iload_n hx hb d_LR_sumHarm_17 rfl (lv_at hl 2 rfl) ?_
      obtain ⟨x6, e7, h⟩ := mx_b h
      refine mx_aald hx hb hK hM e7 rfl d_LR_sumHarm_18 ?_
      obtain ⟨a11, e10, h⟩ := mx_b h
      obtain ⟨q8, e9, h⟩ := mx_b h
      have e12 := mx_c_eq e10
      refine W.eq (g2 := F0 m 19 ls [.ref a11, .long v1]) (congrArg (fun z => F0 m 19 ls [va_rf z, .long v1]) e12) ?_
      refine gq_go (va_runV (b := a11) (As := []) (rest := [.long v1]) ⟨hx, hb, hml, hown, hts⟩ (c_Lo_harm l G a11  _ _ e9) (cwV 0 hts (gq_gV wd_237 wd_238 wd_239 wd_66 wd_236) rfl rfl rfl (by decide +kernel) ⟨Nat.le_trans (Nat.le_of_ble_eq_true rfl) hRf, Nat.le_trans (Nat.le_of_ble_eq_true rfl) hRl⟩) (gq_preV hK hN hM hS hb0 e10 (C := R_Lo) (T := T_Lo) (N := 12) rfl) rfl rfl hl.1 rfl (lv_room (Nat.le_of_ble_eq_true rfl)) d_LR_sumHarm_19 ⟨Nat.le_trans (Nat.le_of_ble_eq_true rfl) hRc, Nat.le_trans (Nat.le_of_ble_eq_true rfl) hRs⟩) hS (fun H locs hM hS => ?_)
      refine W.eq (g2 := F0 m 22 ls [.long q8.1, .long v1]) rfl ?_
      refine lv_ladd hx hb d_LR_sumHarm_22 ?_
      refine lv_lstore_n (lv' := [(1, .long ((v1 + q8.1))), (0, va_rf v0), (3, .int v3)]) hx hb d_LR_sumHarm_23 rfl hl (by decide) (by simp [mx_cat, mx_cati, mx_catl, mx_catr]) (fun ls hl => ?_)
      refine lv_iinc (v := (v3 + 1)) (lv' := [(3, .int ((v3 + 1))), (1, .long ((v1 + q8.1))), (0, va_rf v0)]) hx hb d_LR_sumHarm_24 hl (k := 2) rfl rfl (by decide) rfl (fun ls hl => ?_)
      refine lv_goto (tgt := 4) hx hb d_LR_sumHarm_27 (by decide) ?_
      exact ih _ _ _ _ h _ _ _ (lv_sub hl [2, 1, 0] rfl) hM hS
set_option maxHeartbeats 4000000 in
set_option maxRecDepth 100000 in
theorem c_LR_sumHarm (l : Launch) (G : mx_G) (a0 : Nat) (mem : mx_Mem) (q : Int64 × mx_Mem) (h : f_LR_sumHarm a0 mem = some q) : Met l y_LR_sumHarm (gq_w y_LR_sumHarm b_LR_sumHarm 4 (some .long)) { frames := 3, cells := 0, slots := 0, locals := 56 } (gq_P G [.ref a0] mem) (gq_Q G (some (.long q.1)) q.2) 0 0 (mx_A G) := by
  refine Met.ofW (cc := b_LR_sumHarm) (maxL := 4) (ret := (some .long)) (by decide) rfl ?_
  intro p e s m args below meth c s₁ B hml hv
  obtain ⟨rfl, hb0, hM, hK, hN⟩ := hv
  have CX : gq_C p (headSpec (gq_w y_LR_sumHarm b_LR_sumHarm 4 (some .long)) { frames := 3, cells := 0, slots := 0, locals := 56 }).room s m _ meth c G b_LR_sumHarm 4 (some .long) R_LR 3 0 0 56 := ⟨B.exec, B.bytes, hml, B.returns, findClass_of_methodNamed B.named, fun w hw => atoms_spec (ws := gq_w y_LR_sumHarm b_LR_sumHarm 4 (some .long)) B.pre w (List.mem_cons_of_mem _ hw), B.notSynchronized, hK, hN, hb0, Nat.le_refl _, Nat.le_refl _, Nat.le_refl _, Nat.le_refl _⟩
  obtain ⟨hx, hb, hml, hr, hown, hts, hlocks, hK, hN, hb0, hRf, hRc, hRs, hRl⟩ := id CX
  have hS : va_S (mx_A G) s.heap s.heap [] := va_S.rf
  have hl := lv_entry [.ref a0] (n := 4) (Nat.le_of_ble_eq_true rfl)
  rw [lg_entry_eq]
  generalize (lg_sl [.ref a0] ++ List.replicate (4 - (lg_sl [.ref a0]).length) Slot.unset).toArray = ls at hl ⊢
  have hl : lv_has ls 4 [(0, va_rf (some a0))] := hl
  unfold f_LR_sumHarm at h
  refine lv_lconst (v := 0) hx hb d_LR_sumHarm_0 (by decide) ?_
  refine lv_lstore_n (lv' := [(1, .long 0), (0, va_rf (some a0))]) hx hb d_LR_sumHarm_1 rfl hl (by decide) (by simp [mx_cat, mx_cati, mx_catl, mx_catr]) (fun ls hl => ?_)
  refine lv_iconst (v := 0) hx hb d_LR_sumHarm_2 (by decide) ?_
  refine lv_istore_n (lv' := [(3, .int 0), (1, .long 0), (0, va_rf (some a0))]) hx hb d_LR_sumHarm_3 rfl hl (by decide) rfl (fun ls hl => ?_)
  refine wfl_LR_sumHarm_4 q CX  5000 _ _ _ _ h _ _ _ (lv_sub hl [2, 1, 0] rfl) hM hS
set_option maxHeartbeats 4000000 in
set_option maxRecDepth 100000 in
theorem c_Lo_isAct (l : Launch) (G : mx_G) (a0 : Nat) (mem : mx_Mem) (q : Int32 × mx_Mem) (h : f_Lo_isAct a0 mem = some q) : Met l y_Lo_isAct (gq_w y_Lo_isAct b_Lo_isAct 2 (some .boolean)) { frames := 1, cells := 0, slots := 0, locals := 20 } (gq_P G [.ref a0] mem) (gq_Q G (some (.int q.1)) q.2) 0 0 (mx_A G) := by
  refine Met.ofW (cc := b_Lo_isAct) (maxL := 2) (ret := (some .boolean)) (by decide) rfl ?_
  intro p e s m args below meth c s₁ B hml hv
  obtain ⟨rfl, hb0, hM, hK, hN⟩ := hv
  have CX : gq_C p (headSpec (gq_w y_Lo_isAct b_Lo_isAct 2 (some .boolean)) { frames := 1, cells := 0, slots := 0, locals := 20 }).room s m _ meth c G b_Lo_isAct 2 (some .boolean) R_Lo 1 0 0 20 := ⟨B.exec, B.bytes, hml, B.returns, findClass_of_methodNamed B.named, fun w hw => atoms_spec (ws := gq_w y_Lo_isAct b_Lo_isAct 2 (some .boolean)) B.pre w (List.mem_cons_of_mem _ hw), B.notSynchronized, hK, hN, hb0, Nat.le_refl _, Nat.le_refl _, Nat.le_refl _, Nat.le_refl _⟩
  obtain ⟨hx, hb, hml, hr, hown, hts, hlocks, hK, hN, hb0, hRf, hRc, hRs, hRl⟩ := id CX
  have hS : va_S (mx_A G) s.heap s.heap [] := va_S.rf
  have hl := lv_entry [.ref a0] (n := 2) (Nat.le_of_ble_eq_true rfl)
  rw [lg_entry_eq]
  generalize (lg_sl [.ref a0] ++ List.replicate (2 - (lg_sl [.ref a0]).length) Slot.unset).toArray = ls at hl ⊢
  have hl : lv_has ls 2 [(0, va_rf (some a0))] := hl
  unfold f_Lo_isAct at h
  refine mx_aload_n hx hb d_Lo_isAct_0 rfl (lv_at hl 0 rfl) ?_
  obtain ⟨a4, e3, h⟩ := mx_b h
  obtain ⟨q1, e2, h⟩ := mx_b h
  have e5 := mx_c_eq e3
  refine W.eq (g2 := F0 m 1 ls [.ref a4]) (congrArg (fun z => F0 m 1 ls [va_rf z]) e5) ?_
  refine gq_go (va_runV (b := a4) (As := []) (rest := []) ⟨hx, hb, hml, hown, hts⟩ (c_Lo_pickedOption l G a4  _ _ e2) (cwV 0 hts (gq_gV wd_63 wd_64 wd_65 wd_66 wd_62) rfl rfl rfl (by decide +kernel) ⟨Nat.le_trans (Nat.le_of_ble_eq_true rfl) hRf, Nat.le_trans (Nat.le_of_ble_eq_true rfl) hRl⟩) (gq_preV hK hN hM hS hb0 e3 (C := R_Lo) (T := T_Lo) (N := 12) rfl) rfl rfl hl.1 rfl (lv_room (Nat.le_of_ble_eq_true rfl)) d_Lo_isAct_1 ⟨Nat.le_trans (Nat.le_of_ble_eq_true rfl) hRc, Nat.le_trans (Nat.le_of_ble_eq_true rfl) hRs⟩) hS (fun H locs hM hS => ?_)
  refine W.eq (g2 := F0 m 4 ls [va_rf q1.1]) rfl ?_
  refine mx_astore_n (lv' := [(1, va_rf q1.1), (0, va_rf (some a0))]) hx hb d_Lo_isAct_4 rfl hl (by decide) (by simp [mx_cat, mx_cati, mx_catl, mx_catr]) (fun ls hl => ?_)
  refine mx_aload_n hx hb d_Lo_isAct_5 rfl (lv_at hl 0 rfl) ?_
  refine mx_ifnull (tgt := 20) hx hb d_Lo_isAct_6 (by decide) (fun c6 => ?_) (fun c6 => ?_)
  · rw [if_pos c6] at h
    refine lv_iconst (v := 0) hx hb d_Lo_isAct_20 (by decide) ?_
    cases h
    exact W.zret hx hb hr rfl (fun t ht hW => ⟨⟨rfl, by rw [ht]; exact hM⟩, hS.F ht⟩) hS.2.2 d_Lo_isAct_21
  · rw [if_neg c6] at h
    refine mx_aload_n hx hb d_Lo_isAct_9 rfl (lv_at hl 0 rfl) ?_
    obtain ⟨x7, e8, h⟩ := mx_b h
    refine mx_getiN hx hb hts i_Op hown hK hM e8 (ci := 2) (C := R_Op) (T := T_Op) (N := 3) rfl 0 (by decide) (va_Nw.use rfl (hN _ nw_2)) d_Lo_isAct_10 ?_
    refine lv_if_eq (tgt := 20) hx hb d_Lo_isAct_13 (by decide) (fun c9 => ?_) (fun c9 => ?_)
    · rw [if_pos c9] at h
      refine lv_iconst (v := 0) hx hb d_Lo_isAct_20 (by decide) ?_
      cases h
      exact W.zret hx hb hr rfl (fun t ht hW => ⟨⟨rfl, by rw [ht]; exact hM⟩, hS.F ht⟩) hS.2.2 d_Lo_isAct_21
    · rw [if_neg c9] at h
      refine lv_iconst (v := 1) hx hb d_Lo_isAct_16 (by decide) ?_
      refine lv_goto (tgt := 21) hx hb d_Lo_isAct_17 (by decide) ?_
      cases h
      exact W.zret hx hb hr rfl (fun t ht hW => ⟨⟨rfl, by rw [ht]; exact hM⟩, hS.F ht⟩) hS.2.2 d_Lo_isAct_21
set_option maxHeartbeats 4000000 in
set_option maxRecDepth 100000 in
theorem wfl_LR_countActs_4 {p : Program} {l : Launch} {e : Env} {R : Room} {s : State} {m : MethodId} {args : Array Value} {below : List Frame} {meth : Method} {c : Code} {G : mx_G} (q : Int32 × mx_Mem) (CX : gq_C p R s m args meth c G b_LR_countActs 3 (some .int) R_LR 2 0 0 41)  : ∀ (n : Nat) (v0 : Option Nat) (v1 : Int32) (v2 : Int32) (mem : mx_Mem), fl_LR_countActs_4  n v0 v1 v2 mem = some q → ∀ (H : Heap) (locs : List Loc) (ls : Array Slot), lv_has ls 3 [(0, va_rf v0), (1, .int v1), (2, .int v2)] → mx_M vwCl G mem H → va_S (mx_A G) s.heap H locs → W p l e R s m args below meth c H locs 0 0 (MQ below (gq_Q G (some (.int q.1)) q.2) args s 0 0 (mx_A G)) (F0 m 4 ls []) := by
  obtain ⟨hx, hb, hml, hr, hown, hts, hlocks, hK, hN, hb0, hRf, hRc, hRs, hRl⟩ := id CX
  intro n
  induction n with
  | zero => intro v0 v1 v2 mem h; rw [fl_LR_countActs_4] at h; cases h
  | succ n ih =>
    intro v0 v1 v2 mem h H locs ls hl hM hS
    rw [fl_LR_countActs_4] at h
    refine lv_iload_n hx hb d_LR_countActs_4 rfl (lv_at hl 2 rfl) ?_
    refine mx_aload_n hx hb d_LR_countActs_5 rfl (lv_at hl 0 rfl) ?_
    obtain ⟨x1, e2, h⟩ := mx_b h
    refine mx_geti hx hb hts i_LR hown hK hM e2 (ci := 0) (C := R_LR) (T := T_LR) (N := 5) rfl 4 (by decide) (hts _ wd_9) d_LR_countActs_6 ?_
    refine lv_icmp_ge (tgt := 33) hx hb d_LR_countActs_9 (by decide) (fun c3 => ?_) (fun c3 => ?_)
    · rw [if_pos c3] at h
      refine lv_iload_n hx hb d_LR_countActs_33 rfl (lv_at hl 1 rfl) ?_
      cases h
      exact W.iret hx hb hr (fun t ht hW => ⟨⟨rfl, by rw [ht]; exact hM⟩, hS.F ht⟩) hS.2.2 d_LR_countActs_34
    · rw [if_neg c3] at h
      refine mx_aload_n hx hb d_LR_countActs_12 rfl (lv_at hl 0 rfl) ?_
      obtain ⟨x4, e5, h⟩ := mx_b h
      refine mx_getr hx hb hts i_LR hown hK hM e5 (ci := 0) (C := R_LR) (T := T_LR) (N := 5) rfl 2 (by decide) (hts _ wd_6) d_LR_countActs_13 ?_
      refine lv_iload_n hx hb d_LR_countActs_16 rfl (lv_at hl 2 rfl) ?_
      obtain ⟨x6, e7, h⟩ := mx_b h
      refine mx_aald hx hb hK hM e7 rfl d_LR_countActs_17 ?_
      obtain ⟨a11, e10, h⟩ := mx_b h
      obtain ⟨q8, e9, h⟩ := mx_b h
      have e12 := mx_c_eq e10
      refine W.eq (g2 := F0 m 18 ls [.ref a11]) (congrArg (fun z => F0 m 18 ls [va_rf z]) e12) ?_
      refine gq_go (va_runV (b := a11) (As := []) (rest := []) ⟨hx, hb, hml, hown, hts⟩ (c_Lo_isAct l G a11  _ _ e9) (cwV 0 hts (gq_gV wd_241 wd_242 wd_243 wd_66 wd_240) rfl rfl rfl (by decide +kernel) ⟨Nat.le_trans (Nat.le_of_ble_eq_true rfl) hRf, Nat.le_trans (Nat.le_of_ble_eq_true rfl) hRl⟩) (gq_preV hK hN hM hS hb0 e10 (C := R_Lo) (T := T_Lo) (N := 12) rfl) rfl rfl hl.1 rfl (lv_room (Nat.le_of_ble_eq_true rfl)) d_LR_countActs_18 ⟨Nat.le_trans (Nat.le_of_ble_eq_true rfl) hRc, Nat.le_trans (Nat.le_of_ble_eq_true rfl) hRs⟩) hS (fun H locs hM hS => ?_)
      refine W.eq (g2 := F0 m 21 ls [.int q8.1]) rfl ?_
      refine lv_if_eq (tgt := 27) hx hb d_LR_countActs_21 (by decide) (fun c13 => ?_) (fun c13 => ?_)
      · rw [if_pos c13] at h
        refine lv_iinc (v := (v2 + 1)) (lv' := [(2, .int ((v2 + 1))), (0, va_rf v0), (1, .int v1)]) hx hb d_LR_countActs_27 hl (k := 2) rfl rfl (by decide) rfl (fun ls hl => ?_)
        refine lv_goto (tgt := 4) hx hb d_LR_countActs_30 (by decide) ?_
        exact ih _ _ _ _ h _ _ _ (lv_sub hl [1, 2, 0] rfl) hM hS
      · rw [if_neg c13] at h
        refine lv_iinc (v := (v1 + 1)) (lv' := [(1, .int ((v1 + 1))), (0, va_rf v0), (2, .int v2)]) hx hb d_LR_countActs_24 hl (k := 1) rfl rfl (by decide) (by simp [mx_cat, mx_cati, mx_catl, mx_catr]) (fun ls hl => ?_)
        refine lv_iinc (v := (v2 + 1)) (lv' := [(2, .int ((v2 + 1))), (1, .int ((v1 + 1))), (0, va_rf v0)]) hx hb d_LR_countActs_27 hl (k := 2) rfl rfl (by decide) rfl (fun ls hl => ?_)
        refine lv_goto (tgt := 4) hx hb d_LR_countActs_30 (by decide) ?_
        exact ih _ _ _ _ h _ _ _ (lv_sub hl [2, 1, 0] rfl) hM hS
set_option maxHeartbeats 4000000 in
set_option maxRecDepth 100000 in
theorem c_LR_countActs (l : Launch) (G : mx_G) (a0 : Nat) (mem : mx_Mem) (q : Int32 × mx_Mem) (h : f_LR_countActs a0 mem = some q) : Met l y_LR_countActs (gq_w y_LR_countActs b_LR_countActs 3 (some .int)) { frames := 2, cells := 0, slots := 0, locals := 41 } (gq_P G [.ref a0] mem) (gq_Q G (some (.int q.1)) q.2) 0 0 (mx_A G) := by
  refine Met.ofW (cc := b_LR_countActs) (maxL := 3) (ret := (some .int)) (by decide) rfl ?_
  intro p e s m args below meth c s₁ B hml hv
  obtain ⟨rfl, hb0, hM, hK, hN⟩ := hv
  have CX : gq_C p (headSpec (gq_w y_LR_countActs b_LR_countActs 3 (some .int)) { frames := 2, cells := 0, slots := 0, locals := 41 }).room s m _ meth c G b_LR_countActs 3 (some .int) R_LR 2 0 0 41 := ⟨B.exec, B.bytes, hml, B.returns, findClass_of_methodNamed B.named, fun w hw => atoms_spec (ws := gq_w y_LR_countActs b_LR_countActs 3 (some .int)) B.pre w (List.mem_cons_of_mem _ hw), B.notSynchronized, hK, hN, hb0, Nat.le_refl _, Nat.le_refl _, Nat.le_refl _, Nat.le_refl _⟩
  obtain ⟨hx, hb, hml, hr, hown, hts, hlocks, hK, hN, hb0, hRf, hRc, hRs, hRl⟩ := id CX
  have hS : va_S (mx_A G) s.heap s.heap [] := va_S.rf
  have hl := lv_entry [.ref a0] (n := 3) (Nat.le_of_ble_eq_true rfl)
  rw [lg_entry_eq]
  generalize (lg_sl [.ref a0] ++ List.replicate (3 - (lg_sl [.ref a0]).length) Slot.unset).toArray = ls at hl ⊢
  have hl : lv_has ls 3 [(0, va_rf (some a0))] := hl
  unfold f_LR_countActs at h
  refine lv_iconst (v := 0) hx hb d_LR_countActs_0 (by decide) ?_
  refine lv_istore_n (lv' := [(1, .int 0), (0, va_rf (some a0))]) hx hb d_LR_countActs_1 rfl hl (by decide) (by simp [mx_cat, mx_cati, mx_catl, mx_catr]) (fun ls hl => ?_)
  refine lv_iconst (v := 0) hx hb d_LR_countActs_2 (by decide) ?_
  refine lv_istore_n (lv' := [(2, .int 0), (1, .int 0), (0, va_rf (some a0))]) hx hb d_LR_countActs_3 rfl hl (by decide) rfl (fun ls hl => ?_)
  refine wfl_LR_countActs_4 q CX  5000 _ _ _ _ h _ _ _ (lv_sub hl [2, 1, 0] rfl) hM hS
set_option maxHeartbeats 4000000 in
set_option maxRecDepth 100000 in
theorem c_Lo_keepPicked (l : Launch) (G : mx_G) (a0 : Nat) (mem : mx_Mem) (q : mx_Mem) (h : f_Lo_keepPicked a0 mem = some q) : Met l y_Lo_keepPicked (gq_w y_Lo_keepPicked b_Lo_keepPicked 1 none) { frames := 0, cells := 0, slots := 0, locals := 0 } (gq_P G [.ref a0] mem) (gq_Q G none q) 0 0 (mx_A G) := by
  refine Met.ofW (cc := b_Lo_keepPicked) (maxL := 1) (ret := none) (by decide) rfl ?_
  intro p e s m args below meth c s₁ B hml hv
  obtain ⟨rfl, hb0, hM, hK, hN⟩ := hv
  have CX : gq_C p (headSpec (gq_w y_Lo_keepPicked b_Lo_keepPicked 1 none) { frames := 0, cells := 0, slots := 0, locals := 0 }).room s m _ meth c G b_Lo_keepPicked 1 none R_Lo 0 0 0 0 := ⟨B.exec, B.bytes, hml, B.returns, findClass_of_methodNamed B.named, fun w hw => atoms_spec (ws := gq_w y_Lo_keepPicked b_Lo_keepPicked 1 none) B.pre w (List.mem_cons_of_mem _ hw), B.notSynchronized, hK, hN, hb0, Nat.le_refl _, Nat.le_refl _, Nat.le_refl _, Nat.le_refl _⟩
  obtain ⟨hx, hb, hml, hr, hown, hts, hlocks, hK, hN, hb0, hRf, hRc, hRs, hRl⟩ := id CX
  have hS : va_S (mx_A G) s.heap s.heap [] := va_S.rf
  have hl := lv_entry [.ref a0] (n := 1) (Nat.le_of_ble_eq_true rfl)
  rw [lg_entry_eq]
  generalize (lg_sl [.ref a0] ++ List.replicate (1 - (lg_sl [.ref a0]).length) Slot.unset).toArray = ls at hl ⊢
  have hl : lv_has ls 1 [(0, va_rf (some a0))] := hl
  unfold f_Lo_keepPicked at h
  refine mx_aload_n hx hb d_Lo_keepPicked_0 rfl (lv_at hl 0 rfl) ?_
  refine mx_aload_n hx hb d_Lo_keepPicked_1 rfl (lv_at hl 0 rfl) ?_
  obtain ⟨x1, e2, h⟩ := mx_b h
  refine mx_geti hx hb hts i_Lo hown hK hM e2 (ci := 3) (C := R_Lo) (T := T_Lo) (N := 12) rfl 6 (by decide) (hts _ wd_48) d_Lo_keepPicked_2 ?_
  obtain ⟨m3, e4, h⟩ := mx_b h
  refine mx_put hx hb hts i_Lo t_Lo t_Lo_ok n_Lo hown hK hM hS e4 (ci := 3) (C := R_Lo) (T := T_Lo) (N := 12) rfl 7 (by decide) (hts _ wd_121) rfl (ty := .int) (by decide +kernel) rfl rfl d_Lo_keepPicked_5 (fun H locs hM hS => ?_)
  cases h
  exact W.vret hx hb hr (fun t ht hW => ⟨⟨rfl, by rw [ht]; exact hM⟩, hS.F ht⟩) hS.2.2 d_Lo_keepPicked_8
end
section
set_option maxHeartbeats 4000000 in
set_option maxRecDepth 100000 in
theorem wfl_LR_keepChoice_2 {p : Program} {l : Launch} {e : Env} {R : Room} {s : State} {m : MethodId} {args : Array Value} {below : List Frame} {meth : Method} {c : Code} {G : mx_G} (q : mx_Mem) (CX : gq_C p R s m args meth c G b_LR_keepChoice 2 none R_LR 1 0 0 20)  : ∀ (n : Nat) (v0 : Option Nat) (v1 : Int32) (mem : mx_Mem), fl_LR_keepChoice_2  n v0 v1 mem = some q → ∀ (H : Heap) (locs : List Loc) (ls : Array Slot), lv_has ls 2 [(0, va_rf v0), (1, .int v1)] → mx_M vwCl G mem H → va_S (mx_A G) s.heap H locs → W p l e R s m args below meth c H locs 0 0 (MQ below (gq_Q G none q) args s 0 0 (mx_A G)) (F0 m 2 ls []) := by
  obtain ⟨hx, hb, hml, hr, hown, hts, hlocks, hK, hN, hb0, hRf, hRc, hRs, hRl⟩ := id CX
  intro n
  induction n with
  | zero => intro v0 v1 mem h; rw [fl_LR_keepChoice_2] at h; cases h
  | succ n ih =>
    intro v0 v1 mem h H locs ls hl hM hS
    rw [fl_LR_keepChoice_2] at h
    refine lv_iload_n hx hb d_LR_keepChoice_2 rfl (lv_at hl 1 rfl) ?_
    refine mx_aload_n hx hb d_LR_keepChoice_3 rfl (lv_at hl 0 rfl) ?_
    obtain ⟨x1, e2, h⟩ := mx_b h
    refine mx_geti hx hb hts i_LR hown hK hM e2 (ci := 0) (C := R_LR) (T := T_LR) (N := 5) rfl 4 (by decide) (hts _ wd_9) d_LR_keepChoice_4 ?_
    refine lv_icmp_ge (tgt := 25) hx hb d_LR_keepChoice_7 (by decide) (fun c3 => ?_) (fun c3 => ?_)
    · rw [if_pos c3] at h
      cases h
      exact W.vret hx hb hr (fun t ht hW => ⟨⟨rfl, by rw [ht]; exact hM⟩, hS.F ht⟩) hS.2.2 d_LR_keepChoice_25
    · rw [if_neg c3] at h
      refine mx_aload_n hx hb d_LR_keepChoice_10 rfl (lv_at hl 0 rfl) ?_
      obtain ⟨x4, e5, h⟩ := mx_b h
      refine mx_getr hx hb hts i_LR hown hK hM e5 (ci := 0) (C := R_LR) (T := T_LR) (N := 5) rfl 2 (by decide) (hts _ wd_6) d_LR_keepChoice_11 ?_
      refine lv_iload_n hx hb d_LR_keepChoice_14 rfl (lv_at hl 1 rfl) ?_
      obtain ⟨x6, e7, h⟩ := mx_b h
      refine mx_aald hx hb hK hM e7 rfl d_LR_keepChoice_15 ?_
      obtain ⟨a11, e10, h⟩ := mx_b h
      obtain ⟨q8, e9, h⟩ := mx_b h
      have e12 := mx_c_eq e10
      refine W.eq (g2 := F0 m 16 ls [.ref a11]) (congrArg (fun z => F0 m 16 ls [va_rf z]) e12) ?_
      refine gq_go (va_runV (b := a11) (As := []) (rest := []) ⟨hx, hb, hml, hown, hts⟩ (c_Lo_keepPicked l G a11  _ _ e9) (cwV 0 hts (gq_gV wd_245 wd_246 wd_247 wd_66 wd_244) rfl rfl rfl (by decide +kernel) ⟨Nat.le_trans (Nat.le_of_ble_eq_true rfl) hRf, Nat.le_trans (Nat.le_of_ble_eq_true rfl) hRl⟩) (gq_preV hK hN hM hS hb0 e10 (C := R_Lo) (T := T_Lo) (N := 12) rfl) rfl rfl hl.1 rfl (lv_room (Nat.le_of_ble_eq_true rfl)) d_LR_keepChoice_16 ⟨Nat.le_trans (Nat.le_of_ble_eq_true rfl) hRc, Nat.le_trans (Nat.le_of_ble_eq_true rfl) hRs⟩) hS (fun H locs hM hS => ?_)
      refine W.eq (g2 := F0 m 19 ls []) rfl ?_
      refine lv_iinc (v := (v1 + 1)) (lv' := [(1, .int ((v1 + 1))), (0, va_rf v0)]) hx hb d_LR_keepChoice_19 hl (k := 1) rfl rfl (by decide) (by simp [mx_cat, mx_cati, mx_catl, mx_catr]) (fun ls hl => ?_)
      refine lv_goto (tgt := 2) hx hb d_LR_keepChoice_22 (by decide) ?_
      exact ih _ _ _ h _ _ _ (lv_sub hl [1, 0] rfl) hM hS
set_option maxHeartbeats 4000000 in
set_option maxRecDepth 100000 in
theorem c_LR_keepChoice (l : Launch) (G : mx_G) (a0 : Nat) (mem : mx_Mem) (q : mx_Mem) (h : f_LR_keepChoice a0 mem = some q) : Met l y_LR_keepChoice (gq_w y_LR_keepChoice b_LR_keepChoice 2 none) { frames := 1, cells := 0, slots := 0, locals := 20 } (gq_P G [.ref a0] mem) (gq_Q G none q) 0 0 (mx_A G) := by
  refine Met.ofW (cc := b_LR_keepChoice) (maxL := 2) (ret := none) (by decide) rfl ?_
  intro p e s m args below meth c s₁ B hml hv
  obtain ⟨rfl, hb0, hM, hK, hN⟩ := hv
  have CX : gq_C p (headSpec (gq_w y_LR_keepChoice b_LR_keepChoice 2 none) { frames := 1, cells := 0, slots := 0, locals := 20 }).room s m _ meth c G b_LR_keepChoice 2 none R_LR 1 0 0 20 := ⟨B.exec, B.bytes, hml, B.returns, findClass_of_methodNamed B.named, fun w hw => atoms_spec (ws := gq_w y_LR_keepChoice b_LR_keepChoice 2 none) B.pre w (List.mem_cons_of_mem _ hw), B.notSynchronized, hK, hN, hb0, Nat.le_refl _, Nat.le_refl _, Nat.le_refl _, Nat.le_refl _⟩
  obtain ⟨hx, hb, hml, hr, hown, hts, hlocks, hK, hN, hb0, hRf, hRc, hRs, hRl⟩ := id CX
  have hS : va_S (mx_A G) s.heap s.heap [] := va_S.rf
  have hl := lv_entry [.ref a0] (n := 2) (Nat.le_of_ble_eq_true rfl)
  rw [lg_entry_eq]
  generalize (lg_sl [.ref a0] ++ List.replicate (2 - (lg_sl [.ref a0]).length) Slot.unset).toArray = ls at hl ⊢
  have hl : lv_has ls 2 [(0, va_rf (some a0))] := hl
  unfold f_LR_keepChoice at h
  refine lv_iconst (v := 0) hx hb d_LR_keepChoice_0 (by decide) ?_
  refine lv_istore_n (lv' := [(1, .int 0), (0, va_rf (some a0))]) hx hb d_LR_keepChoice_1 rfl hl (by decide) (by simp [mx_cat, mx_cati, mx_catl, mx_catr]) (fun ls hl => ?_)
  refine wfl_LR_keepChoice_2 q CX  5000 _ _ _ h _ _ _ (lv_sub hl [1, 0] rfl) hM hS
set_option maxHeartbeats 4000000 in
set_option maxRecDepth 100000 in
theorem c_Lo_pickNext (l : Launch) (G : mx_G) (a0 : Nat) (mem : mx_Mem) (q : Int32 × mx_Mem) (h : f_Lo_pickNext a0 mem = some q) : Met l y_Lo_pickNext (gq_w y_Lo_pickNext b_Lo_pickNext 1 (some .boolean)) { frames := 0, cells := 0, slots := 0, locals := 0 } (gq_P G [.ref a0] mem) (gq_Q G (some (.int q.1)) q.2) 0 0 (mx_A G) := by
  refine Met.ofW (cc := b_Lo_pickNext) (maxL := 1) (ret := (some .boolean)) (by decide) rfl ?_
  intro p e s m args below meth c s₁ B hml hv
  obtain ⟨rfl, hb0, hM, hK, hN⟩ := hv
  have CX : gq_C p (headSpec (gq_w y_Lo_pickNext b_Lo_pickNext 1 (some .boolean)) { frames := 0, cells := 0, slots := 0, locals := 0 }).room s m _ meth c G b_Lo_pickNext 1 (some .boolean) R_Lo 0 0 0 0 := ⟨B.exec, B.bytes, hml, B.returns, findClass_of_methodNamed B.named, fun w hw => atoms_spec (ws := gq_w y_Lo_pickNext b_Lo_pickNext 1 (some .boolean)) B.pre w (List.mem_cons_of_mem _ hw), B.notSynchronized, hK, hN, hb0, Nat.le_refl _, Nat.le_refl _, Nat.le_refl _, Nat.le_refl _⟩
  obtain ⟨hx, hb, hml, hr, hown, hts, hlocks, hK, hN, hb0, hRf, hRc, hRs, hRl⟩ := id CX
  have hS : va_S (mx_A G) s.heap s.heap [] := va_S.rf
  have hl := lv_entry [.ref a0] (n := 1) (Nat.le_of_ble_eq_true rfl)
  rw [lg_entry_eq]
  generalize (lg_sl [.ref a0] ++ List.replicate (1 - (lg_sl [.ref a0]).length) Slot.unset).toArray = ls at hl ⊢
  have hl : lv_has ls 1 [(0, va_rf (some a0))] := hl
  unfold f_Lo_pickNext at h
  refine mx_aload_n hx hb d_Lo_pickNext_0 rfl (lv_at hl 0 rfl) ?_
  obtain ⟨x1, e2, h⟩ := mx_b h
  refine mx_geti hx hb hts i_Lo hown hK hM e2 (ci := 3) (C := R_Lo) (T := T_Lo) (N := 12) rfl 6 (by decide) (hts _ wd_48) d_Lo_pickNext_1 ?_
  refine lv_iconst (v := 1) hx hb d_Lo_pickNext_4 (by decide) ?_
  refine lv_iadd hx hb d_Lo_pickNext_5 ?_
  refine mx_aload_n hx hb d_Lo_pickNext_6 rfl (lv_at hl 0 rfl) ?_
  obtain ⟨x3, e4, h⟩ := mx_b h
  refine mx_geti hx hb hts i_Lo hown hK hM e4 (ci := 3) (C := R_Lo) (T := T_Lo) (N := 12) rfl 5 (by decide) (hts _ wd_49) d_Lo_pickNext_7 ?_
  refine lv_icmp_lt (tgt := 15) hx hb d_Lo_pickNext_10 (by decide) (fun c5 => ?_) (fun c5 => ?_)
  · rw [if_pos c5] at h
    refine mx_aload_n hx hb d_Lo_pickNext_15 rfl (lv_at hl 0 rfl) ?_
    refine lv_dup hx hb d_Lo_pickNext_16 (mx_cat _) ?_
    obtain ⟨x6, e7, h⟩ := mx_b h
    refine mx_geti hx hb hts i_Lo hown hK hM e7 (ci := 3) (C := R_Lo) (T := T_Lo) (N := 12) rfl 6 (by decide) (hts _ wd_48) d_Lo_pickNext_17 ?_
    refine lv_iconst (v := 1) hx hb d_Lo_pickNext_20 (by decide) ?_
    refine lv_iadd hx hb d_Lo_pickNext_21 ?_
    obtain ⟨m8, e9, h⟩ := mx_b h
    refine mx_put hx hb hts i_Lo t_Lo t_Lo_ok n_Lo hown hK hM hS e9 (ci := 3) (C := R_Lo) (T := T_Lo) (N := 12) rfl 6 (by decide) (hts _ wd_48) rfl (ty := .int) (by decide +kernel) rfl rfl d_Lo_pickNext_22 (fun H locs hM hS => ?_)
    refine lv_iconst (v := 1) hx hb d_Lo_pickNext_25 (by decide) ?_
    cases h
    exact W.zret hx hb hr rfl (fun t ht hW => ⟨⟨rfl, by rw [ht]; exact hM⟩, hS.F ht⟩) hS.2.2 d_Lo_pickNext_26
  · rw [if_neg c5] at h
    refine lv_iconst (v := 0) hx hb d_Lo_pickNext_13 (by decide) ?_
    cases h
    exact W.zret hx hb hr rfl (fun t ht hW => ⟨⟨rfl, by rw [ht]; exact hM⟩, hS.F ht⟩) hS.2.2 d_Lo_pickNext_14
set_option maxHeartbeats 4000000 in
set_option maxRecDepth 100000 in
theorem wfl_LR_pickNextChoice_7 {p : Program} {l : Launch} {e : Env} {R : Room} {s : State} {m : MethodId} {args : Array Value} {below : List Frame} {meth : Method} {c : Code} {G : mx_G} (q : Int32 × mx_Mem) (CX : gq_C p R s m args meth c G b_LR_pickNextChoice 2 (some .boolean) R_LR 1 0 0 20)  : ∀ (n : Nat) (v0 : Option Nat) (v1 : Int32) (mem : mx_Mem), fl_LR_pickNextChoice_7  n v0 v1 mem = some q → ∀ (H : Heap) (locs : List Loc) (ls : Array Slot), lv_has ls 2 [(0, va_rf v0), (1, .int v1)] → mx_M vwCl G mem H → va_S (mx_A G) s.heap H locs → W p l e R s m args below meth c H locs 0 0 (MQ below (gq_Q G (some (.int q.1)) q.2) args s 0 0 (mx_A G)) (F0 m 7 ls []) := by
  obtain ⟨hx, hb, hml, hr, hown, hts, hlocks, hK, hN, hb0, hRf, hRc, hRs, hRl⟩ := id CX
  intro n
  induction n with
  | zero => intro v0 v1 mem h; rw [fl_LR_pickNextChoice_7] at h; cases h
  | succ n ih =>
    intro v0 v1 mem h H locs ls hl hM hS
    rw [fl_LR_pickNextChoice_7] at h
    refine lv_iload_n hx hb d_LR_pickNextChoice_7 rfl (lv_at hl 1 rfl) ?_
    refine lv_if_lt (tgt := 40) hx hb d_LR_pickNextChoice_8 (by decide) (fun c1 => ?_) (fun c1 => ?_)
    · rw [if_pos c1] at h
      refine lv_iconst (v := 0) hx hb d_LR_pickNextChoice_40 (by decide) ?_
      cases h
      exact W.zret hx hb hr rfl (fun t ht hW => ⟨⟨rfl, by rw [ht]; exact hM⟩, hS.F ht⟩) hS.2.2 d_LR_pickNextChoice_41
    · rw [if_neg c1] at h
      refine mx_aload_n hx hb d_LR_pickNextChoice_11 rfl (lv_at hl 0 rfl) ?_
      obtain ⟨x2, e3, h⟩ := mx_b h
      refine mx_getr hx hb hts i_LR hown hK hM e3 (ci := 0) (C := R_LR) (T := T_LR) (N := 5) rfl 2 (by decide) (hts _ wd_6) d_LR_pickNextChoice_12 ?_
      refine lv_iload_n hx hb d_LR_pickNextChoice_15 rfl (lv_at hl 1 rfl) ?_
      obtain ⟨x4, e5, h⟩ := mx_b h
      refine mx_aald hx hb hK hM e5 rfl d_LR_pickNextChoice_16 ?_
      obtain ⟨a9, e8, h⟩ := mx_b h
      obtain ⟨q6, e7, h⟩ := mx_b h
      have e10 := mx_c_eq e8
      refine W.eq (g2 := F0 m 17 ls [.ref a9]) (congrArg (fun z => F0 m 17 ls [va_rf z]) e10) ?_
      refine gq_go (va_runV (b := a9) (As := []) (rest := []) ⟨hx, hb, hml, hown, hts⟩ (c_Lo_pickNext l G a9  _ _ e7) (cwV 0 hts (gq_gV wd_249 wd_250 wd_251 wd_66 wd_248) rfl rfl rfl (by decide +kernel) ⟨Nat.le_trans (Nat.le_of_ble_eq_true rfl) hRf, Nat.le_trans (Nat.le_of_ble_eq_true rfl) hRl⟩) (gq_preV hK hN hM hS hb0 e8 (C := R_Lo) (T := T_Lo) (N := 12) rfl) rfl rfl hl.1 rfl (lv_room (Nat.le_of_ble_eq_true rfl)) d_LR_pickNextChoice_17 ⟨Nat.le_trans (Nat.le_of_ble_eq_true rfl) hRc, Nat.le_trans (Nat.le_of_ble_eq_true rfl) hRs⟩) hS (fun H locs hM hS => ?_)
      refine W.eq (g2 := F0 m 20 ls [.int q6.1]) rfl ?_
      refine lv_if_eq (tgt := 25) hx hb d_LR_pickNextChoice_20 (by decide) (fun c11 => ?_) (fun c11 => ?_)
      · rw [if_pos c11] at h
        refine mx_aload_n hx hb d_LR_pickNextChoice_25 rfl (lv_at hl 0 rfl) ?_
        obtain ⟨x12, e13, h⟩ := mx_b h
        refine mx_getr hx hb hts i_LR hown hK hM e13 (ci := 0) (C := R_LR) (T := T_LR) (N := 5) rfl 2 (by decide) (hts _ wd_6) d_LR_pickNextChoice_26 ?_
        refine lv_iload_n hx hb d_LR_pickNextChoice_29 rfl (lv_at hl 1 rfl) ?_
        obtain ⟨x14, e15, h⟩ := mx_b h
        refine mx_aald hx hb hK hM e15 rfl d_LR_pickNextChoice_30 ?_
        obtain ⟨a19, e18, h⟩ := mx_b h
        obtain ⟨q16, e17, h⟩ := mx_b h
        have e20 := mx_c_eq e18
        refine W.eq (g2 := F0 m 31 ls [.ref a19]) (congrArg (fun z => F0 m 31 ls [va_rf z]) e20) ?_
        refine gq_go (va_runV (b := a19) (As := []) (rest := []) ⟨hx, hb, hml, hown, hts⟩ (c_Lo_pickFirst l G a19  _ _ e17) (cwV 0 hts (gq_gV wd_232 wd_233 wd_234 wd_66 wd_231) rfl rfl rfl (by decide +kernel) ⟨Nat.le_trans (Nat.le_of_ble_eq_true rfl) hRf, Nat.le_trans (Nat.le_of_ble_eq_true rfl) hRl⟩) (gq_preV hK hN hM hS hb0 e18 (C := R_Lo) (T := T_Lo) (N := 12) rfl) rfl rfl hl.1 rfl (lv_room (Nat.le_of_ble_eq_true rfl)) d_LR_pickNextChoice_31 ⟨Nat.le_trans (Nat.le_of_ble_eq_true rfl) hRc, Nat.le_trans (Nat.le_of_ble_eq_true rfl) hRs⟩) hS (fun H locs hM hS => ?_)
        refine W.eq (g2 := F0 m 34 ls []) rfl ?_
        refine lv_iinc (v := (v1 + (-1))) (lv' := [(1, .int ((v1 + (-1)))), (0, va_rf v0)]) hx hb d_LR_pickNextChoice_34 hl (k := 1) rfl rfl (by decide) (by simp [mx_cat, mx_cati, mx_catl, mx_catr]) (fun ls hl => ?_)
        refine lv_goto (tgt := 7) hx hb d_LR_pickNextChoice_37 (by decide) ?_
        exact ih _ _ _ h _ _ _ (lv_sub hl [1, 0] rfl) hM hS
      · rw [if_neg c11] at h
        refine lv_iconst (v := 1) hx hb d_LR_pickNextChoice_23 (by decide) ?_
        cases h
        exact W.zret hx hb hr rfl (fun t ht hW => ⟨⟨rfl, by rw [ht]; exact hM⟩, hS.F ht⟩) hS.2.2 d_LR_pickNextChoice_24
set_option maxHeartbeats 4000000 in
set_option maxRecDepth 100000 in
theorem c_LR_pickNextChoice (l : Launch) (G : mx_G) (a0 : Nat) (mem : mx_Mem) (q : Int32 × mx_Mem) (h : f_LR_pickNextChoice a0 mem = some q) : Met l y_LR_pickNextChoice (gq_w y_LR_pickNextChoice b_LR_pickNextChoice 2 (some .boolean)) { frames := 1, cells := 0, slots := 0, locals := 20 } (gq_P G [.ref a0] mem) (gq_Q G (some (.int q.1)) q.2) 0 0 (mx_A G) := by
  refine Met.ofW (cc := b_LR_pickNextChoice) (maxL := 2) (ret := (some .boolean)) (by decide) rfl ?_
  intro p e s m args below meth c s₁ B hml hv
  obtain ⟨rfl, hb0, hM, hK, hN⟩ := hv
  have CX : gq_C p (headSpec (gq_w y_LR_pickNextChoice b_LR_pickNextChoice 2 (some .boolean)) { frames := 1, cells := 0, slots := 0, locals := 20 }).room s m _ meth c G b_LR_pickNextChoice 2 (some .boolean) R_LR 1 0 0 20 := ⟨B.exec, B.bytes, hml, B.returns, findClass_of_methodNamed B.named, fun w hw => atoms_spec (ws := gq_w y_LR_pickNextChoice b_LR_pickNextChoice 2 (some .boolean)) B.pre w (List.mem_cons_of_mem _ hw), B.notSynchronized, hK, hN, hb0, Nat.le_refl _, Nat.le_refl _, Nat.le_refl _, Nat.le_refl _⟩
  obtain ⟨hx, hb, hml, hr, hown, hts, hlocks, hK, hN, hb0, hRf, hRc, hRs, hRl⟩ := id CX
  have hS : va_S (mx_A G) s.heap s.heap [] := va_S.rf
  have hl := lv_entry [.ref a0] (n := 2) (Nat.le_of_ble_eq_true rfl)
  rw [lg_entry_eq]
  generalize (lg_sl [.ref a0] ++ List.replicate (2 - (lg_sl [.ref a0]).length) Slot.unset).toArray = ls at hl ⊢
  have hl : lv_has ls 2 [(0, va_rf (some a0))] := hl
  unfold f_LR_pickNextChoice at h
  refine mx_aload_n hx hb d_LR_pickNextChoice_0 rfl (lv_at hl 0 rfl) ?_
  obtain ⟨x1, e2, h⟩ := mx_b h
  refine mx_geti hx hb hts i_LR hown hK hM e2 (ci := 0) (C := R_LR) (T := T_LR) (N := 5) rfl 4 (by decide) (hts _ wd_9) d_LR_pickNextChoice_1 ?_
  refine lv_iconst (v := 1) hx hb d_LR_pickNextChoice_4 (by decide) ?_
  refine lv_isub hx hb d_LR_pickNextChoice_5 ?_
  refine lv_istore_n (lv' := [(1, .int ((x1 - 1))), (0, va_rf (some a0))]) hx hb d_LR_pickNextChoice_6 rfl hl (by decide) (by simp [mx_cat, mx_cati, mx_catl, mx_catr]) (fun ls hl => ?_)
  refine wfl_LR_pickNextChoice_7 q CX  5000 _ _ _ h _ _ _ (lv_sub hl [1, 0] rfl) hM hS
set_option maxHeartbeats 4000000 in
set_option maxRecDepth 100000 in
theorem c_Lo_takeKept (l : Launch) (G : mx_G) (a0 : Nat) (mem : mx_Mem) (q : mx_Mem) (h : f_Lo_takeKept a0 mem = some q) : Met l y_Lo_takeKept (gq_w y_Lo_takeKept b_Lo_takeKept 1 none) { frames := 0, cells := 0, slots := 0, locals := 0 } (gq_P G [.ref a0] mem) (gq_Q G none q) 0 0 (mx_A G) := by
  refine Met.ofW (cc := b_Lo_takeKept) (maxL := 1) (ret := none) (by decide) rfl ?_
  intro p e s m args below meth c s₁ B hml hv
  obtain ⟨rfl, hb0, hM, hK, hN⟩ := hv
  have CX : gq_C p (headSpec (gq_w y_Lo_takeKept b_Lo_takeKept 1 none) { frames := 0, cells := 0, slots := 0, locals := 0 }).room s m _ meth c G b_Lo_takeKept 1 none R_Lo 0 0 0 0 := ⟨B.exec, B.bytes, hml, B.returns, findClass_of_methodNamed B.named, fun w hw => atoms_spec (ws := gq_w y_Lo_takeKept b_Lo_takeKept 1 none) B.pre w (List.mem_cons_of_mem _ hw), B.notSynchronized, hK, hN, hb0, Nat.le_refl _, Nat.le_refl _, Nat.le_refl _, Nat.le_refl _⟩
  obtain ⟨hx, hb, hml, hr, hown, hts, hlocks, hK, hN, hb0, hRf, hRc, hRs, hRl⟩ := id CX
  have hS : va_S (mx_A G) s.heap s.heap [] := va_S.rf
  have hl := lv_entry [.ref a0] (n := 1) (Nat.le_of_ble_eq_true rfl)
  rw [lg_entry_eq]
  generalize (lg_sl [.ref a0] ++ List.replicate (1 - (lg_sl [.ref a0]).length) Slot.unset).toArray = ls at hl ⊢
  have hl : lv_has ls 1 [(0, va_rf (some a0))] := hl
  unfold f_Lo_takeKept at h
  refine mx_aload_n hx hb d_Lo_takeKept_0 rfl (lv_at hl 0 rfl) ?_
  refine mx_aload_n hx hb d_Lo_takeKept_1 rfl (lv_at hl 0 rfl) ?_
  obtain ⟨x1, e2, h⟩ := mx_b h
  refine mx_geti hx hb hts i_Lo hown hK hM e2 (ci := 3) (C := R_Lo) (T := T_Lo) (N := 12) rfl 7 (by decide) (hts _ wd_121) d_Lo_takeKept_2 ?_
  obtain ⟨m3, e4, h⟩ := mx_b h
  refine mx_put hx hb hts i_Lo t_Lo t_Lo_ok n_Lo hown hK hM hS e4 (ci := 3) (C := R_Lo) (T := T_Lo) (N := 12) rfl 6 (by decide) (hts _ wd_48) rfl (ty := .int) (by decide +kernel) rfl rfl d_Lo_takeKept_5 (fun H locs hM hS => ?_)
  cases h
  exact W.vret hx hb hr (fun t ht hW => ⟨⟨rfl, by rw [ht]; exact hM⟩, hS.F ht⟩) hS.2.2 d_Lo_takeKept_8
set_option maxHeartbeats 4000000 in
set_option maxRecDepth 100000 in
theorem wfl_LR_takeKeptChoice_2 {p : Program} {l : Launch} {e : Env} {R : Room} {s : State} {m : MethodId} {args : Array Value} {below : List Frame} {meth : Method} {c : Code} {G : mx_G} (q : mx_Mem) (CX : gq_C p R s m args meth c G b_LR_takeKeptChoice 2 none R_LR 1 0 0 20)  : ∀ (n : Nat) (v0 : Option Nat) (v1 : Int32) (mem : mx_Mem), fl_LR_takeKeptChoice_2  n v0 v1 mem = some q → ∀ (H : Heap) (locs : List Loc) (ls : Array Slot), lv_has ls 2 [(0, va_rf v0), (1, .int v1)] → mx_M vwCl G mem H → va_S (mx_A G) s.heap H locs → W p l e R s m args below meth c H locs 0 0 (MQ below (gq_Q G none q) args s 0 0 (mx_A G)) (F0 m 2 ls []) := by
  obtain ⟨hx, hb, hml, hr, hown, hts, hlocks, hK, hN, hb0, hRf, hRc, hRs, hRl⟩ := id CX
  intro n
  induction n with
  | zero => intro v0 v1 mem h; rw [fl_LR_takeKeptChoice_2] at h; cases h
  | succ n ih =>
    intro v0 v1 mem h H locs ls hl hM hS
    rw [fl_LR_takeKeptChoice_2] at h
    refine lv_iload_n hx hb d_LR_takeKeptChoice_2 rfl (lv_at hl 1 rfl) ?_
    refine mx_aload_n hx hb d_LR_takeKeptChoice_3 rfl (lv_at hl 0 rfl) ?_
    obtain ⟨x1, e2, h⟩ := mx_b h
    refine mx_geti hx hb hts i_LR hown hK hM e2 (ci := 0) (C := R_LR) (T := T_LR) (N := 5) rfl 4 (by decide) (hts _ wd_9) d_LR_takeKeptChoice_4 ?_
    refine lv_icmp_ge (tgt := 25) hx hb d_LR_takeKeptChoice_7 (by decide) (fun c3 => ?_) (fun c3 => ?_)
    · rw [if_pos c3] at h
      cases h
      exact W.vret hx hb hr (fun t ht hW => ⟨⟨rfl, by rw [ht]; exact hM⟩, hS.F ht⟩) hS.2.2 d_LR_takeKeptChoice_25
    · rw [if_neg c3] at h
      refine mx_aload_n hx hb d_LR_takeKeptChoice_10 rfl (lv_at hl 0 rfl) ?_
      obtain ⟨x4, e5, h⟩ := mx_b h
      refine mx_getr hx hb hts i_LR hown hK hM e5 (ci := 0) (C := R_LR) (T := T_LR) (N := 5) rfl 2 (by decide) (hts _ wd_6) d_LR_takeKeptChoice_11 ?_
      refine lv_iload_n hx hb d_LR_takeKeptChoice_14 rfl (lv_at hl 1 rfl) ?_
      obtain ⟨x6, e7, h⟩ := mx_b h
      refine mx_aald hx hb hK hM e7 rfl d_LR_takeKeptChoice_15 ?_
      obtain ⟨a11, e10, h⟩ := mx_b h
      obtain ⟨q8, e9, h⟩ := mx_b h
      have e12 := mx_c_eq e10
      refine W.eq (g2 := F0 m 16 ls [.ref a11]) (congrArg (fun z => F0 m 16 ls [va_rf z]) e12) ?_
      refine gq_go (va_runV (b := a11) (As := []) (rest := []) ⟨hx, hb, hml, hown, hts⟩ (c_Lo_takeKept l G a11  _ _ e9) (cwV 0 hts (gq_gV wd_253 wd_254 wd_255 wd_66 wd_252) rfl rfl rfl (by decide +kernel) ⟨Nat.le_trans (Nat.le_of_ble_eq_true rfl) hRf, Nat.le_trans (Nat.le_of_ble_eq_true rfl) hRl⟩) (gq_preV hK hN hM hS hb0 e10 (C := R_Lo) (T := T_Lo) (N := 12) rfl) rfl rfl hl.1 rfl (lv_room (Nat.le_of_ble_eq_true rfl)) d_LR_takeKeptChoice_16 ⟨Nat.le_trans (Nat.le_of_ble_eq_true rfl) hRc, Nat.le_trans (Nat.le_of_ble_eq_true rfl) hRs⟩) hS (fun H locs hM hS => ?_)
      refine W.eq (g2 := F0 m 19 ls []) rfl ?_
      refine lv_iinc (v := (v1 + 1)) (lv' := [(1, .int ((v1 + 1))), (0, va_rf v0)]) hx hb d_LR_takeKeptChoice_19 hl (k := 1) rfl rfl (by decide) (by simp [mx_cat, mx_cati, mx_catl, mx_catr]) (fun ls hl => ?_)
      refine lv_goto (tgt := 2) hx hb d_LR_takeKeptChoice_22 (by decide) ?_
      exact ih _ _ _ h _ _ _ (lv_sub hl [1, 0] rfl) hM hS
set_option maxHeartbeats 4000000 in
set_option maxRecDepth 100000 in
theorem c_LR_takeKeptChoice (l : Launch) (G : mx_G) (a0 : Nat) (mem : mx_Mem) (q : mx_Mem) (h : f_LR_takeKeptChoice a0 mem = some q) : Met l y_LR_takeKeptChoice (gq_w y_LR_takeKeptChoice b_LR_takeKeptChoice 2 none) { frames := 1, cells := 0, slots := 0, locals := 20 } (gq_P G [.ref a0] mem) (gq_Q G none q) 0 0 (mx_A G) := by
  refine Met.ofW (cc := b_LR_takeKeptChoice) (maxL := 2) (ret := none) (by decide) rfl ?_
  intro p e s m args below meth c s₁ B hml hv
  obtain ⟨rfl, hb0, hM, hK, hN⟩ := hv
  have CX : gq_C p (headSpec (gq_w y_LR_takeKeptChoice b_LR_takeKeptChoice 2 none) { frames := 1, cells := 0, slots := 0, locals := 20 }).room s m _ meth c G b_LR_takeKeptChoice 2 none R_LR 1 0 0 20 := ⟨B.exec, B.bytes, hml, B.returns, findClass_of_methodNamed B.named, fun w hw => atoms_spec (ws := gq_w y_LR_takeKeptChoice b_LR_takeKeptChoice 2 none) B.pre w (List.mem_cons_of_mem _ hw), B.notSynchronized, hK, hN, hb0, Nat.le_refl _, Nat.le_refl _, Nat.le_refl _, Nat.le_refl _⟩
  obtain ⟨hx, hb, hml, hr, hown, hts, hlocks, hK, hN, hb0, hRf, hRc, hRs, hRl⟩ := id CX
  have hS : va_S (mx_A G) s.heap s.heap [] := va_S.rf
  have hl := lv_entry [.ref a0] (n := 2) (Nat.le_of_ble_eq_true rfl)
  rw [lg_entry_eq]
  generalize (lg_sl [.ref a0] ++ List.replicate (2 - (lg_sl [.ref a0]).length) Slot.unset).toArray = ls at hl ⊢
  have hl : lv_has ls 2 [(0, va_rf (some a0))] := hl
  unfold f_LR_takeKeptChoice at h
  refine lv_iconst (v := 0) hx hb d_LR_takeKeptChoice_0 (by decide) ?_
  refine lv_istore_n (lv' := [(1, .int 0), (0, va_rf (some a0))]) hx hb d_LR_takeKeptChoice_1 rfl hl (by decide) (by simp [mx_cat, mx_cati, mx_catl, mx_catr]) (fun ls hl => ?_)
  refine wfl_LR_takeKeptChoice_2 q CX  5000 _ _ _ h _ _ _ (lv_sub hl [1, 0] rfl) hM hS
set_option maxHeartbeats 4000000 in
set_option maxRecDepth 100000 in
theorem wfl_LR_solve_2 {p : Program} {l : Launch} {e : Env} {R : Room} {s : State} {m : MethodId} {args : Array Value} {below : List Frame} {meth : Method} {c : Code} {G : mx_G} (q : Int64 × mx_Mem) (CX : gq_C p R s m args meth c G b_LR_solve 9 (some .long) R_LR 4 0 0 80) {k0 : Option Nat → mx_Mem → Option (Int64 × mx_Mem)} (hk0 : ∀ (v0 : Option Nat) (mem : mx_Mem), k0 v0 mem = some q → ∀ (H : Heap) (locs : List Loc) (ls : Array Slot), lv_has ls 9 [(0, va_rf v0)] → mx_M vwCl G mem H → va_S (mx_A G) s.heap H locs → W p l e R s m args below meth c H locs 0 0 (MQ below (gq_Q G (some (.long q.1)) q.2) args s 0 0 (mx_A G)) (F0 m 25 ls [])) : ∀ (n : Nat) (v0 : Option Nat) (v1 : Int32) (mem : mx_Mem), fl_LR_solve_2 k0 n v0 v1 mem = some q → ∀ (H : Heap) (locs : List Loc) (ls : Array Slot), lv_has ls 9 [(0, va_rf v0), (1, .int v1)] → mx_M vwCl G mem H → va_S (mx_A G) s.heap H locs → W p l e R s m args below meth c H locs 0 0 (MQ below (gq_Q G (some (.long q.1)) q.2) args s 0 0 (mx_A G)) (F0 m 2 ls []) := by
  obtain ⟨hx, hb, hml, hr, hown, hts, hlocks, hK, hN, hb0, hRf, hRc, hRs, hRl⟩ := id CX
  intro n
  induction n with
  | zero => intro v0 v1 mem h; rw [fl_LR_solve_2] at h; cases h
  | succ n ih =>
    intro v0 v1 mem h H locs ls hl hM hS
    rw [fl_LR_solve_2] at h
    refine lv_iload_n hx hb d_LR_solve_2 rfl (lv_at hl 1 rfl) ?_
    refine mx_aload_n hx hb d_LR_solve_3 rfl (lv_at hl 0 rfl) ?_
    obtain ⟨x1, e2, h⟩ := mx_b h
    refine mx_geti hx hb hts i_LR hown hK hM e2 (ci := 0) (C := R_LR) (T := T_LR) (N := 5) rfl 4 (by decide) (hts _ wd_9) d_LR_solve_4 ?_
    refine lv_icmp_ge (tgt := 25) hx hb d_LR_solve_7 (by decide) (fun c3 => ?_) (fun c3 => ?_)
    · rw [if_pos c3] at h
      exact hk0 _ _ h _ _ _ (lv_sub hl [0] rfl) hM hS
    · rw [if_neg c3] at h
      refine mx_aload_n hx hb d_LR_solve_10 rfl (lv_at hl 0 rfl) ?_
      obtain ⟨x4, e5, h⟩ := mx_b h
      refine mx_getr hx hb hts i_LR hown hK hM e5 (ci := 0) (C := R_LR) (T := T_LR) (N := 5) rfl 2 (by decide) (hts _ wd_6) d_LR_solve_11 ?_
      refine lv_iload_n hx hb d_LR_solve_14 rfl (lv_at hl 1 rfl) ?_
      obtain ⟨x6, e7, h⟩ := mx_b h
      refine mx_aald hx hb hK hM e7 rfl d_LR_solve_15 ?_
      obtain ⟨a11, e10, h⟩ := mx_b h
      obtain ⟨q8, e9, h⟩ := mx_b h
      have e12 := mx_c_eq e10
      refine W.eq (g2 := F0 m 16 ls [.ref a11]) (congrArg (fun z => F0 m 16 ls [va_rf z]) e12) ?_
      refine gq_go (va_runV (b := a11) (As := []) (rest := []) ⟨hx, hb, hml, hown, hts⟩ (c_Lo_pickFirst l G a11  _ _ e9) (cwV 0 hts (gq_gV wd_232 wd_233 wd_234 wd_66 wd_231) rfl rfl rfl (by decide +kernel) ⟨Nat.le_trans (Nat.le_of_ble_eq_true rfl) hRf, Nat.le_trans (Nat.le_of_ble_eq_true rfl) hRl⟩) (gq_preV hK hN hM hS hb0 e10 (C := R_Lo) (T := T_Lo) (N := 12) rfl) rfl rfl hl.1 rfl (lv_room (Nat.le_of_ble_eq_true rfl)) d_LR_solve_16 ⟨Nat.le_trans (Nat.le_of_ble_eq_true rfl) hRc, Nat.le_trans (Nat.le_of_ble_eq_true rfl) hRs⟩) hS (fun H locs hM hS => ?_)
      refine W.eq (g2 := F0 m 19 ls []) rfl ?_
      refine lv_iinc (v := (v1 + 1)) (lv' := [(1, .int ((v1 + 1))), (0, va_rf v0)]) hx hb d_LR_solve_19 hl (k := 1) rfl rfl (by decide) (by simp [mx_cat, mx_cati, mx_catl, mx_catr]) (fun ls hl => ?_)
      refine lv_goto (tgt := 2) hx hb d_LR_solve_22 (by decide) ?_
      exact ih _ _ _ h _ _ _ (lv_sub hl [1, 0] rfl) hM hS
set_option maxHeartbeats 4000000 in
set_option maxRecDepth 100000 in
theorem wfl_LR_solve_37 {p : Program} {l : Launch} {e : Env} {R : Room} {s : State} {m : MethodId} {args : Array Value} {below : List Frame} {meth : Method} {c : Code} {G : mx_G} (q : Int64 × mx_Mem) (CX : gq_C p R s m args meth c G b_LR_solve 9 (some .long) R_LR 4 0 0 80)  : ∀ (n : Nat) (v0 : Option Nat) (v1 : Int64) (v3 : Int32) (v4 : Int32) (v5 : Int32) (mem : mx_Mem), fl_LR_solve_37  n v0 v1 v3 v4 v5 mem = some q → ∀ (H : Heap) (locs : List Loc) (ls : Array Slot), lv_has ls 9 [(0, va_rf v0), (1, .long v1), (3, .int v3), (4, .int v4), (5, .int v5)] → mx_M vwCl G mem H → va_S (mx_A G) s.heap H locs → W p l e R s m args below meth c H locs 0 0 (MQ below (gq_Q G (some (.long q.1)) q.2) args s 0 0 (mx_A G)) (F0 m 37 ls []) := by
  obtain ⟨hx, hb, hml, hr, hown, hts, hlocks, hK, hN, hb0, hRf, hRc, hRs, hRl⟩ := id CX
  intro n
  induction n with
  | zero => intro v0 v1 v3 v4 v5 mem h; rw [fl_LR_solve_37] at h; cases h
  | succ n ih =>
    intro v0 v1 v3 v4 v5 mem h H locs ls hl hM hS
    rw [fl_LR_solve_37] at h
    refine lv_iload hx hb d_LR_solve_37 (lv_at hl 3 rfl) ?_
    refine lv_if_eq (tgt := 108) hx hb d_LR_solve_39 (by decide) (fun c1 => ?_) (fun c1 => ?_)
    · rw [if_pos c1] at h
      refine mx_aload_n hx hb d_LR_solve_108 rfl (lv_at hl 0 rfl) ?_
      obtain ⟨a5, e4, h⟩ := mx_b h
      obtain ⟨q2, e3, h⟩ := mx_b h
      have e6 := mx_c_eq e4
      refine W.eq (g2 := F0 m 109 ls [.ref a5]) (congrArg (fun z => F0 m 109 ls [va_rf z]) e6) ?_
      refine gq_go (va_runV (b := a5) (As := []) (rest := []) ⟨hx, hb, hml, hown, hts⟩ (c_LR_takeKeptChoice l G a5  _ _ e3) (cwV 0 hts (gq_gV wd_258 wd_259 wd_260 wd_38 wd_257) rfl rfl rfl (by decide +kernel) ⟨Nat.le_trans (Nat.le_of_ble_eq_true rfl) hRf, Nat.le_trans (Nat.le_of_ble_eq_true rfl) hRl⟩) (gq_preV hK hN hM hS hb0 e4 (C := R_LR) (T := T_LR) (N := 5) rfl) rfl rfl hl.1 rfl (lv_room (Nat.le_of_ble_eq_true rfl)) d_LR_solve_109 ⟨Nat.le_trans (Nat.le_of_ble_eq_true rfl) hRc, Nat.le_trans (Nat.le_of_ble_eq_true rfl) hRs⟩) hS (fun H locs hM hS => ?_)
      refine W.eq (g2 := F0 m 112 ls []) rfl ?_
      refine mx_aload_n hx hb d_LR_solve_112 rfl (lv_at hl 0 rfl) ?_
      obtain ⟨a10, e9, h⟩ := mx_b h
      obtain ⟨q7, e8, h⟩ := mx_b h
      have e11 := mx_c_eq e9
      refine W.eq (g2 := F0 m 113 ls [.ref a10]) (congrArg (fun z => F0 m 113 ls [va_rf z]) e11) ?_
      refine gq_go (va_runV (b := a10) (As := []) (rest := []) ⟨hx, hb, hml, hown, hts⟩ (c_LR_settle l G a10  _ _ e8) (cwV 0 hts (gq_gV wd_106 wd_107 wd_108 wd_38 wd_105) rfl rfl rfl (by decide +kernel) ⟨Nat.le_trans (Nat.le_of_ble_eq_true rfl) hRf, Nat.le_trans (Nat.le_of_ble_eq_true rfl) hRl⟩) (gq_preV hK hN hM hS hb0 e9 (C := R_LR) (T := T_LR) (N := 5) rfl) rfl rfl hl.1 rfl (lv_room (Nat.le_of_ble_eq_true rfl)) d_LR_solve_113 ⟨Nat.le_trans (Nat.le_of_ble_eq_true rfl) hRc, Nat.le_trans (Nat.le_of_ble_eq_true rfl) hRs⟩) hS (fun H locs hM hS => ?_)
      refine W.eq (g2 := F0 m 116 ls []) rfl ?_
      refine lv_lload_n hx hb d_LR_solve_116 rfl (lv_at hl 1 rfl) ?_
      cases h
      exact W.lret hx hb hr (fun t ht hW => ⟨⟨rfl, by rw [ht]; exact hM⟩, hS.F ht⟩) hS.2.2 d_LR_solve_117
    · rw [if_neg c1] at h
      refine lv_iload hx hb d_LR_solve_42 (lv_at hl 4 rfl) ?_
      refine lv_sipush (v := 4096) hx hb d_LR_solve_44 (by decide) ?_
      refine lv_icmp_ge (tgt := 108) hx hb d_LR_solve_47 (by decide) (fun c2 => ?_) (fun c2 => ?_)
      · rw [if_pos c2] at h
        refine mx_aload_n hx hb d_LR_solve_108 rfl (lv_at hl 0 rfl) ?_
        obtain ⟨a6, e5, h⟩ := mx_b h
        obtain ⟨q3, e4, h⟩ := mx_b h
        have e7 := mx_c_eq e5
        refine W.eq (g2 := F0 m 109 ls [.ref a6]) (congrArg (fun z => F0 m 109 ls [va_rf z]) e7) ?_
        refine gq_go (va_runV (b := a6) (As := []) (rest := []) ⟨hx, hb, hml, hown, hts⟩ (c_LR_takeKeptChoice l G a6  _ _ e4) (cwV 0 hts (gq_gV wd_258 wd_259 wd_260 wd_38 wd_257) rfl rfl rfl (by decide +kernel) ⟨Nat.le_trans (Nat.le_of_ble_eq_true rfl) hRf, Nat.le_trans (Nat.le_of_ble_eq_true rfl) hRl⟩) (gq_preV hK hN hM hS hb0 e5 (C := R_LR) (T := T_LR) (N := 5) rfl) rfl rfl hl.1 rfl (lv_room (Nat.le_of_ble_eq_true rfl)) d_LR_solve_109 ⟨Nat.le_trans (Nat.le_of_ble_eq_true rfl) hRc, Nat.le_trans (Nat.le_of_ble_eq_true rfl) hRs⟩) hS (fun H locs hM hS => ?_)
        refine W.eq (g2 := F0 m 112 ls []) rfl ?_
        refine mx_aload_n hx hb d_LR_solve_112 rfl (lv_at hl 0 rfl) ?_
        obtain ⟨a11, e10, h⟩ := mx_b h
        obtain ⟨q8, e9, h⟩ := mx_b h
        have e12 := mx_c_eq e10
        refine W.eq (g2 := F0 m 113 ls [.ref a11]) (congrArg (fun z => F0 m 113 ls [va_rf z]) e12) ?_
        refine gq_go (va_runV (b := a11) (As := []) (rest := []) ⟨hx, hb, hml, hown, hts⟩ (c_LR_settle l G a11  _ _ e9) (cwV 0 hts (gq_gV wd_106 wd_107 wd_108 wd_38 wd_105) rfl rfl rfl (by decide +kernel) ⟨Nat.le_trans (Nat.le_of_ble_eq_true rfl) hRf, Nat.le_trans (Nat.le_of_ble_eq_true rfl) hRl⟩) (gq_preV hK hN hM hS hb0 e10 (C := R_LR) (T := T_LR) (N := 5) rfl) rfl rfl hl.1 rfl (lv_room (Nat.le_of_ble_eq_true rfl)) d_LR_solve_113 ⟨Nat.le_trans (Nat.le_of_ble_eq_true rfl) hRc, Nat.le_trans (Nat.le_of_ble_eq_true rfl) hRs⟩) hS (fun H locs hM hS => ?_)
        refine W.eq (g2 := F0 m 116 ls []) rfl ?_
        refine lv_lload_n hx hb d_LR_solve_116 rfl (lv_at hl 1 rfl) ?_
        cases h
        exact W.lret hx hb hr (fun t ht hW => ⟨⟨rfl, by rw [ht]; exact hM⟩, hS.F ht⟩) hS.2.2 d_LR_solve_117
      · rw [if_neg c2] at h
        refine mx_aload_n hx hb d_LR_solve_50 rfl (lv_at hl 0 rfl) ?_
        obtain ⟨a6, e5, h⟩ := mx_b h
        obtain ⟨q3, e4, h⟩ := mx_b h
        have e7 := mx_c_eq e5
        refine W.eq (g2 := F0 m 51 ls [.ref a6]) (congrArg (fun z => F0 m 51 ls [va_rf z]) e7) ?_
        refine gq_go (va_runV (b := a6) (As := []) (rest := []) ⟨hx, hb, hml, hown, hts⟩ (c_LR_settle l G a6  _ _ e4) (cwV 0 hts (gq_gV wd_106 wd_107 wd_108 wd_38 wd_105) rfl rfl rfl (by decide +kernel) ⟨Nat.le_trans (Nat.le_of_ble_eq_true rfl) hRf, Nat.le_trans (Nat.le_of_ble_eq_true rfl) hRl⟩) (gq_preV hK hN hM hS hb0 e5 (C := R_LR) (T := T_LR) (N := 5) rfl) rfl rfl hl.1 rfl (lv_room (Nat.le_of_ble_eq_true rfl)) d_LR_solve_51 ⟨Nat.le_trans (Nat.le_of_ble_eq_true rfl) hRc, Nat.le_trans (Nat.le_of_ble_eq_true rfl) hRs⟩) hS (fun H locs hM hS => ?_)
        refine W.eq (g2 := F0 m 54 ls []) rfl ?_
        refine mx_aload_n hx hb d_LR_solve_54 rfl (lv_at hl 0 rfl) ?_
        obtain ⟨a11, e10, h⟩ := mx_b h
        obtain ⟨q8, e9, h⟩ := mx_b h
        have e12 := mx_c_eq e10
        refine W.eq (g2 := F0 m 55 ls [.ref a11]) (congrArg (fun z => F0 m 55 ls [va_rf z]) e12) ?_
        refine gq_go (va_runV (b := a11) (As := []) (rest := []) ⟨hx, hb, hml, hown, hts⟩ (c_LR_sumHarm l G a11  _ _ e9) (cwV 0 hts (gq_gV wd_262 wd_263 wd_264 wd_38 wd_261) rfl rfl rfl (by decide +kernel) ⟨Nat.le_trans (Nat.le_of_ble_eq_true rfl) hRf, Nat.le_trans (Nat.le_of_ble_eq_true rfl) hRl⟩) (gq_preV hK hN hM hS hb0 e10 (C := R_LR) (T := T_LR) (N := 5) rfl) rfl rfl hl.1 rfl (lv_room (Nat.le_of_ble_eq_true rfl)) d_LR_solve_55 ⟨Nat.le_trans (Nat.le_of_ble_eq_true rfl) hRc, Nat.le_trans (Nat.le_of_ble_eq_true rfl) hRs⟩) hS (fun H locs hM hS => ?_)
        refine W.eq (g2 := F0 m 58 ls [.long q8.1]) rfl ?_
        refine lv_lstore (lv' := [(6, .long q8.1), (0, va_rf v0), (1, .long v1), (3, .int v3), (4, .int v4), (5, .int v5)]) hx hb d_LR_solve_58 hl (by decide) rfl (fun ls hl => ?_)
        refine mx_aload_n hx hb d_LR_solve_60 rfl (lv_at hl 1 rfl) ?_
        obtain ⟨a16, e15, h⟩ := mx_b h
        obtain ⟨q13, e14, h⟩ := mx_b h
        have e17 := mx_c_eq e15
        refine W.eq (g2 := F0 m 61 ls [.ref a16]) (congrArg (fun z => F0 m 61 ls [va_rf z]) e17) ?_
        refine gq_go (va_runV (b := a16) (As := []) (rest := []) ⟨hx, hb, hml, hown, hts⟩ (c_LR_countActs l G a16  _ _ e14) (cwV 0 hts (gq_gV wd_266 wd_267 wd_268 wd_38 wd_265) rfl rfl rfl (by decide +kernel) ⟨Nat.le_trans (Nat.le_of_ble_eq_true rfl) hRf, Nat.le_trans (Nat.le_of_ble_eq_true rfl) hRl⟩) (gq_preV hK hN hM hS hb0 e15 (C := R_LR) (T := T_LR) (N := 5) rfl) rfl rfl hl.1 rfl (lv_room (Nat.le_of_ble_eq_true rfl)) d_LR_solve_61 ⟨Nat.le_trans (Nat.le_of_ble_eq_true rfl) hRc, Nat.le_trans (Nat.le_of_ble_eq_true rfl) hRs⟩) hS (fun H locs hM hS => ?_)
        refine W.eq (g2 := F0 m 64 ls [.int q13.1]) rfl ?_
        refine lv_istore (lv' := [(8, .int q13.1), (6, .long q8.1), (0, va_rf v0), (1, .long v1), (3, .int v3), (4, .int v4), (5, .int v5)]) hx hb d_LR_solve_64 hl (by decide) rfl (fun ls hl => ?_)
        refine lv_lload hx hb d_LR_solve_66 (lv_at hl 1 rfl) ?_
        refine lv_lload_n hx hb d_LR_solve_68 rfl (lv_at hl 3 rfl) ?_
        refine mx_lcmp_lt (tgt := 86) hx hb d_LR_solve_69 d_LR_solve_70 (by decide) (fun c18 => ?_) (fun c18 => ?_)
        · rw [if_pos c18] at h
          refine lv_lload hx hb d_LR_solve_86 (lv_at hl 1 rfl) ?_
          refine lv_lstore_n (lv' := [(1, .long q8.1), (8, .int q13.1), (6, .long q8.1), (0, va_rf v0), (3, .int v3), (4, .int v4), (5, .int v5)]) hx hb d_LR_solve_88 rfl hl (by decide) (by simp [mx_cat, mx_cati, mx_catl, mx_catr]) (fun ls hl => ?_)
          refine lv_iload hx hb d_LR_solve_89 (lv_at hl 1 rfl) ?_
          refine lv_istore_n (lv' := [(3, .int q13.1), (1, .long q8.1), (8, .int q13.1), (6, .long q8.1), (0, va_rf v0), (4, .int v4), (5, .int v5)]) hx hb d_LR_solve_91 rfl hl (by decide) rfl (fun ls hl => ?_)
          refine mx_aload_n hx hb d_LR_solve_92 rfl (lv_at hl 4 rfl) ?_
          obtain ⟨a22, e21, h⟩ := mx_b h
          obtain ⟨q19, e20, h⟩ := mx_b h
          have e23 := mx_c_eq e21
          refine W.eq (g2 := F0 m 93 ls [.ref a22]) (congrArg (fun z => F0 m 93 ls [va_rf z]) e23) ?_
          refine gq_go (va_runV (b := a22) (As := []) (rest := []) ⟨hx, hb, hml, hown, hts⟩ (c_LR_keepChoice l G a22  _ _ e20) (cwV 0 hts (gq_gV wd_270 wd_271 wd_272 wd_38 wd_269) rfl rfl rfl (by decide +kernel) ⟨Nat.le_trans (Nat.le_of_ble_eq_true rfl) hRf, Nat.le_trans (Nat.le_of_ble_eq_true rfl) hRl⟩) (gq_preV hK hN hM hS hb0 e21 (C := R_LR) (T := T_LR) (N := 5) rfl) rfl rfl hl.1 rfl (lv_room (Nat.le_of_ble_eq_true rfl)) d_LR_solve_93 ⟨Nat.le_trans (Nat.le_of_ble_eq_true rfl) hRc, Nat.le_trans (Nat.le_of_ble_eq_true rfl) hRs⟩) hS (fun H locs hM hS => ?_)
          refine W.eq (g2 := F0 m 96 ls []) rfl ?_
          refine mx_aload_n hx hb d_LR_solve_96 rfl (lv_at hl 4 rfl) ?_
          obtain ⟨a27, e26, h⟩ := mx_b h
          obtain ⟨q24, e25, h⟩ := mx_b h
          have e28 := mx_c_eq e26
          refine W.eq (g2 := F0 m 97 ls [.ref a27]) (congrArg (fun z => F0 m 97 ls [va_rf z]) e28) ?_
          refine gq_go (va_runV (b := a27) (As := []) (rest := []) ⟨hx, hb, hml, hown, hts⟩ (c_LR_pickNextChoice l G a27  _ _ e25) (cwV 0 hts (gq_gV wd_274 wd_275 wd_276 wd_38 wd_273) rfl rfl rfl (by decide +kernel) ⟨Nat.le_trans (Nat.le_of_ble_eq_true rfl) hRf, Nat.le_trans (Nat.le_of_ble_eq_true rfl) hRl⟩) (gq_preV hK hN hM hS hb0 e26 (C := R_LR) (T := T_LR) (N := 5) rfl) rfl rfl hl.1 rfl (lv_room (Nat.le_of_ble_eq_true rfl)) d_LR_solve_97 ⟨Nat.le_trans (Nat.le_of_ble_eq_true rfl) hRc, Nat.le_trans (Nat.le_of_ble_eq_true rfl) hRs⟩) hS (fun H locs hM hS => ?_)
          refine W.eq (g2 := F0 m 100 ls [.int q24.1]) rfl ?_
          refine lv_istore (lv' := [(4, .int q24.1), (3, .int q13.1), (1, .long q8.1), (8, .int q13.1), (6, .long q8.1), (0, va_rf v0), (5, .int v5)]) hx hb d_LR_solve_100 hl (by decide) rfl (fun ls hl => ?_)
          refine lv_iinc (v := (v5 + 1)) (lv' := [(5, .int ((v5 + 1))), (4, .int q24.1), (3, .int q13.1), (1, .long q8.1), (8, .int q13.1), (6, .long q8.1), (0, va_rf v0)]) hx hb d_LR_solve_102 hl (k := 6) rfl rfl (by decide) rfl (fun ls hl => ?_)
          refine lv_goto (tgt := 37) hx hb d_LR_solve_105 (by decide) ?_
          exact ih _ _ _ _ _ _ h _ _ _ (lv_sub hl [6, 3, 2, 1, 0] rfl) hM hS
        · rw [if_neg c18] at h
          refine lv_lload hx hb d_LR_solve_73 (lv_at hl 1 rfl) ?_
          refine lv_lload_n hx hb d_LR_solve_75 rfl (lv_at hl 3 rfl) ?_
          refine mx_lcmp_ne (tgt := 96) hx hb d_LR_solve_76 d_LR_solve_77 (by decide) (fun c19 => ?_) (fun c19 => ?_)
          · rw [if_neg c19] at h
            refine mx_aload_n hx hb d_LR_solve_96 rfl (lv_at hl 2 rfl) ?_
            obtain ⟨a23, e22, h⟩ := mx_b h
            obtain ⟨q20, e21, h⟩ := mx_b h
            have e24 := mx_c_eq e22
            refine W.eq (g2 := F0 m 97 ls [.ref a23]) (congrArg (fun z => F0 m 97 ls [va_rf z]) e24) ?_
            refine gq_go (va_runV (b := a23) (As := []) (rest := []) ⟨hx, hb, hml, hown, hts⟩ (c_LR_pickNextChoice l G a23  _ _ e21) (cwV 0 hts (gq_gV wd_274 wd_275 wd_276 wd_38 wd_273) rfl rfl rfl (by decide +kernel) ⟨Nat.le_trans (Nat.le_of_ble_eq_true rfl) hRf, Nat.le_trans (Nat.le_of_ble_eq_true rfl) hRl⟩) (gq_preV hK hN hM hS hb0 e22 (C := R_LR) (T := T_LR) (N := 5) rfl) rfl rfl hl.1 rfl (lv_room (Nat.le_of_ble_eq_true rfl)) d_LR_solve_97 ⟨Nat.le_trans (Nat.le_of_ble_eq_true rfl) hRc, Nat.le_trans (Nat.le_of_ble_eq_true rfl) hRs⟩) hS (fun H locs hM hS => ?_)
            refine W.eq (g2 := F0 m 100 ls [.int q20.1]) rfl ?_
            refine lv_istore (lv' := [(4, .int q20.1), (8, .int q13.1), (6, .long q8.1), (0, va_rf v0), (1, .long v1), (3, .int v3), (5, .int v5)]) hx hb d_LR_solve_100 hl (by decide) rfl (fun ls hl => ?_)
            refine lv_iinc (v := (v5 + 1)) (lv' := [(5, .int ((v5 + 1))), (4, .int q20.1), (8, .int q13.1), (6, .long q8.1), (0, va_rf v0), (1, .long v1), (3, .int v3)]) hx hb d_LR_solve_102 hl (k := 6) rfl rfl (by decide) rfl (fun ls hl => ?_)
            refine lv_goto (tgt := 37) hx hb d_LR_solve_105 (by decide) ?_
            exact ih _ _ _ _ _ _ h _ _ _ (lv_sub hl [4, 5, 6, 1, 0] rfl) hM hS
          · rw [if_pos c19] at h
            refine lv_iload hx hb d_LR_solve_80 (lv_at hl 0 rfl) ?_
            refine lv_iload_n hx hb d_LR_solve_82 rfl (lv_at hl 4 rfl) ?_
            refine lv_icmp_ge (tgt := 96) hx hb d_LR_solve_83 (by decide) (fun c20 => ?_) (fun c20 => ?_)
            · rw [if_pos c20] at h
              refine mx_aload_n hx hb d_LR_solve_96 rfl (lv_at hl 2 rfl) ?_
              obtain ⟨a24, e23, h⟩ := mx_b h
              obtain ⟨q21, e22, h⟩ := mx_b h
              have e25 := mx_c_eq e23
              refine W.eq (g2 := F0 m 97 ls [.ref a24]) (congrArg (fun z => F0 m 97 ls [va_rf z]) e25) ?_
              refine gq_go (va_runV (b := a24) (As := []) (rest := []) ⟨hx, hb, hml, hown, hts⟩ (c_LR_pickNextChoice l G a24  _ _ e22) (cwV 0 hts (gq_gV wd_274 wd_275 wd_276 wd_38 wd_273) rfl rfl rfl (by decide +kernel) ⟨Nat.le_trans (Nat.le_of_ble_eq_true rfl) hRf, Nat.le_trans (Nat.le_of_ble_eq_true rfl) hRl⟩) (gq_preV hK hN hM hS hb0 e23 (C := R_LR) (T := T_LR) (N := 5) rfl) rfl rfl hl.1 rfl (lv_room (Nat.le_of_ble_eq_true rfl)) d_LR_solve_97 ⟨Nat.le_trans (Nat.le_of_ble_eq_true rfl) hRc, Nat.le_trans (Nat.le_of_ble_eq_true rfl) hRs⟩) hS (fun H locs hM hS => ?_)
              refine W.eq (g2 := F0 m 100 ls [.int q21.1]) rfl ?_
              refine lv_istore (lv' := [(4, .int q21.1), (8, .int q13.1), (6, .long q8.1), (0, va_rf v0), (1, .long v1), (3, .int v3), (5, .int v5)]) hx hb d_LR_solve_100 hl (by decide) rfl (fun ls hl => ?_)
              refine lv_iinc (v := (v5 + 1)) (lv' := [(5, .int ((v5 + 1))), (4, .int q21.1), (8, .int q13.1), (6, .long q8.1), (0, va_rf v0), (1, .long v1), (3, .int v3)]) hx hb d_LR_solve_102 hl (k := 6) rfl rfl (by decide) rfl (fun ls hl => ?_)
              refine lv_goto (tgt := 37) hx hb d_LR_solve_105 (by decide) ?_
              exact ih _ _ _ _ _ _ h _ _ _ (lv_sub hl [4, 5, 6, 1, 0] rfl) hM hS
            · rw [if_neg c20] at h
              refine lv_lload hx hb d_LR_solve_86 (lv_at hl 1 rfl) ?_
              refine lv_lstore_n (lv' := [(1, .long q8.1), (8, .int q13.1), (6, .long q8.1), (0, va_rf v0), (3, .int v3), (4, .int v4), (5, .int v5)]) hx hb d_LR_solve_88 rfl hl (by decide) (by simp [mx_cat, mx_cati, mx_catl, mx_catr]) (fun ls hl => ?_)
              refine lv_iload hx hb d_LR_solve_89 (lv_at hl 1 rfl) ?_
              refine lv_istore_n (lv' := [(3, .int q13.1), (1, .long q8.1), (8, .int q13.1), (6, .long q8.1), (0, va_rf v0), (4, .int v4), (5, .int v5)]) hx hb d_LR_solve_91 rfl hl (by decide) rfl (fun ls hl => ?_)
              refine mx_aload_n hx hb d_LR_solve_92 rfl (lv_at hl 4 rfl) ?_
              obtain ⟨a24, e23, h⟩ := mx_b h
              obtain ⟨q21, e22, h⟩ := mx_b h
              have e25 := mx_c_eq e23
              refine W.eq (g2 := F0 m 93 ls [.ref a24]) (congrArg (fun z => F0 m 93 ls [va_rf z]) e25) ?_
              refine gq_go (va_runV (b := a24) (As := []) (rest := []) ⟨hx, hb, hml, hown, hts⟩ (c_LR_keepChoice l G a24  _ _ e22) (cwV 0 hts (gq_gV wd_270 wd_271 wd_272 wd_38 wd_269) rfl rfl rfl (by decide +kernel) ⟨Nat.le_trans (Nat.le_of_ble_eq_true rfl) hRf, Nat.le_trans (Nat.le_of_ble_eq_true rfl) hRl⟩) (gq_preV hK hN hM hS hb0 e23 (C := R_LR) (T := T_LR) (N := 5) rfl) rfl rfl hl.1 rfl (lv_room (Nat.le_of_ble_eq_true rfl)) d_LR_solve_93 ⟨Nat.le_trans (Nat.le_of_ble_eq_true rfl) hRc, Nat.le_trans (Nat.le_of_ble_eq_true rfl) hRs⟩) hS (fun H locs hM hS => ?_)
              refine W.eq (g2 := F0 m 96 ls []) rfl ?_
              refine mx_aload_n hx hb d_LR_solve_96 rfl (lv_at hl 4 rfl) ?_
              obtain ⟨a29, e28, h⟩ := mx_b h
              obtain ⟨q26, e27, h⟩ := mx_b h
              have e30 := mx_c_eq e28
              refine W.eq (g2 := F0 m 97 ls [.ref a29]) (congrArg (fun z => F0 m 97 ls [va_rf z]) e30) ?_
              refine gq_go (va_runV (b := a29) (As := []) (rest := []) ⟨hx, hb, hml, hown, hts⟩ (c_LR_pickNextChoice l G a29  _ _ e27) (cwV 0 hts (gq_gV wd_274 wd_275 wd_276 wd_38 wd_273) rfl rfl rfl (by decide +kernel) ⟨Nat.le_trans (Nat.le_of_ble_eq_true rfl) hRf, Nat.le_trans (Nat.le_of_ble_eq_true rfl) hRl⟩) (gq_preV hK hN hM hS hb0 e28 (C := R_LR) (T := T_LR) (N := 5) rfl) rfl rfl hl.1 rfl (lv_room (Nat.le_of_ble_eq_true rfl)) d_LR_solve_97 ⟨Nat.le_trans (Nat.le_of_ble_eq_true rfl) hRc, Nat.le_trans (Nat.le_of_ble_eq_true rfl) hRs⟩) hS (fun H locs hM hS => ?_)
              refine W.eq (g2 := F0 m 100 ls [.int q26.1]) rfl ?_
              refine lv_istore (lv' := [(4, .int q26.1), (3, .int q13.1), (1, .long q8.1), (8, .int q13.1), (6, .long q8.1), (0, va_rf v0), (5, .int v5)]) hx hb d_LR_solve_100 hl (by decide) rfl (fun ls hl => ?_)
              refine lv_iinc (v := (v5 + 1)) (lv' := [(5, .int ((v5 + 1))), (4, .int q26.1), (3, .int q13.1), (1, .long q8.1), (8, .int q13.1), (6, .long q8.1), (0, va_rf v0)]) hx hb d_LR_solve_102 hl (k := 6) rfl rfl (by decide) rfl (fun ls hl => ?_)
              refine lv_goto (tgt := 37) hx hb d_LR_solve_105 (by decide) ?_
              exact ih _ _ _ _ _ _ h _ _ _ (lv_sub hl [6, 3, 2, 1, 0] rfl) hM hS
set_option maxHeartbeats 4000000 in
set_option maxRecDepth 100000 in
theorem c_LR_solve (l : Launch) (G : mx_G) (a0 : Nat) (mem : mx_Mem) (q : Int64 × mx_Mem) (h : f_LR_solve a0 mem = some q) : Met l y_LR_solve (gq_w y_LR_solve b_LR_solve 9 (some .long)) { frames := 4, cells := 0, slots := 0, locals := 80 } (gq_P G [.ref a0] mem) (gq_Q G (some (.long q.1)) q.2) 0 0 (mx_A G) := by
  refine Met.ofW (cc := b_LR_solve) (maxL := 9) (ret := (some .long)) (by decide) rfl ?_
  intro p e s m args below meth c s₁ B hml hv
  obtain ⟨rfl, hb0, hM, hK, hN⟩ := hv
  have CX : gq_C p (headSpec (gq_w y_LR_solve b_LR_solve 9 (some .long)) { frames := 4, cells := 0, slots := 0, locals := 80 }).room s m _ meth c G b_LR_solve 9 (some .long) R_LR 4 0 0 80 := ⟨B.exec, B.bytes, hml, B.returns, findClass_of_methodNamed B.named, fun w hw => atoms_spec (ws := gq_w y_LR_solve b_LR_solve 9 (some .long)) B.pre w (List.mem_cons_of_mem _ hw), B.notSynchronized, hK, hN, hb0, Nat.le_refl _, Nat.le_refl _, Nat.le_refl _, Nat.le_refl _⟩
  obtain ⟨hx, hb, hml, hr, hown, hts, hlocks, hK, hN, hb0, hRf, hRc, hRs, hRl⟩ := id CX
  have hS : va_S (mx_A G) s.heap s.heap [] := va_S.rf
  have hl := lv_entry [.ref a0] (n := 9) (Nat.le_of_ble_eq_true rfl)
  rw [lg_entry_eq]
  generalize (lg_sl [.ref a0] ++ List.replicate (9 - (lg_sl [.ref a0]).length) Slot.unset).toArray = ls at hl ⊢
  have hl : lv_has ls 9 [(0, va_rf (some a0))] := hl
  unfold f_LR_solve at h
  refine lv_iconst (v := 0) hx hb d_LR_solve_0 (by decide) ?_
  refine lv_istore_n (lv' := [(1, .int 0), (0, va_rf (some a0))]) hx hb d_LR_solve_1 rfl hl (by decide) (by simp [mx_cat, mx_cati, mx_catl, mx_catr]) (fun ls hl => ?_)
  refine wfl_LR_solve_2 q CX ?_ 5000 _ _ _ h _ _ _ (lv_sub hl [1, 0] rfl) hM hS
  · intro v0 m1 h H locs ls hl hM hS
    refine lv_ldc2 (v := 9223372036854775807) hx hb hown (hts _ wd_256) d_LR_solve_25 ?_
    refine lv_lstore_n (lv' := [(1, .long 9223372036854775807), (0, va_rf v0)]) hx hb d_LR_solve_28 rfl hl (by decide) (by simp [mx_cat, mx_cati, mx_catl, mx_catr]) (fun ls hl => ?_)
    refine lv_iconst (v := 0) hx hb d_LR_solve_29 (by decide) ?_
    refine lv_istore_n (lv' := [(3, .int 0), (1, .long 9223372036854775807), (0, va_rf v0)]) hx hb d_LR_solve_30 rfl hl (by decide) rfl (fun ls hl => ?_)
    refine lv_iconst (v := 1) hx hb d_LR_solve_31 (by decide) ?_
    refine lv_istore (lv' := [(4, .int 1), (3, .int 0), (1, .long 9223372036854775807), (0, va_rf v0)]) hx hb d_LR_solve_32 hl (by decide) rfl (fun ls hl => ?_)
    refine lv_iconst (v := 0) hx hb d_LR_solve_34 (by decide) ?_
    refine lv_istore (lv' := [(5, .int 0), (4, .int 1), (3, .int 0), (1, .long 9223372036854775807), (0, va_rf v0)]) hx hb d_LR_solve_35 hl (by decide) rfl (fun ls hl => ?_)
    refine wfl_LR_solve_37 q CX  5000 _ _ _ _ _ _ h _ _ _ (lv_sub hl [4, 3, 2, 1, 0] rfl) hM hS
set_option maxHeartbeats 4000000 in
set_option maxRecDepth 100000 in
theorem wfl_Mo_harm_4 {p : Program} {l : Launch} {e : Env} {R : Room} {s : State} {m : MethodId} {args : Array Value} {below : List Frame} {meth : Method} {c : Code} {G : mx_G} (q : Int64 × mx_Mem) (CX : gq_C p R s m args meth c G b_Mo_harm 4 (some .long) R_Mo 0 0 0 0)  : ∀ (n : Nat) (v0 : Option Nat) (v1 : Int64) (v3 : Int32) (mem : mx_Mem), fl_Mo_harm_4  n v0 v1 v3 mem = some q → ∀ (H : Heap) (locs : List Loc) (ls : Array Slot), lv_has ls 4 [(0, va_rf v0), (1, .long v1), (3, .int v3)] → mx_M vwCl G mem H → va_S (mx_A G) s.heap H locs → W p l e R s m args below meth c H locs 0 0 (MQ below (gq_Q G (some (.long q.1)) q.2) args s 0 0 (mx_A G)) (F0 m 4 ls []) := by
  obtain ⟨hx, hb, hml, hr, hown, hts, hlocks, hK, hN, hb0, hRf, hRc, hRs, hRl⟩ := id CX
  intro n
  induction n with
  | zero => intro v0 v1 v3 mem h; rw [fl_Mo_harm_4] at h; cases h
  | succ n ih =>
    intro v0 v1 v3 mem h H locs ls hl hM hS
    rw [fl_Mo_harm_4] at h
    refine lv_iload_n hx hb d_Mo_harm_4 rfl (lv_at hl 2 rfl) ?_
    refine mx_aload_n hx hb d_Mo_harm_5 rfl (lv_at hl 0 rfl) ?_
    obtain ⟨x1, e2, h⟩ := mx_b h
    refine mx_geti hx hb hts i_Mo hown hK hM e2 (ci := 4) (C := R_Mo) (T := T_Mo) (N := 23) rfl 9 (by decide) (hts _ wd_142) d_Mo_harm_6 ?_
    refine lv_icmp_gt (tgt := 93) hx hb d_Mo_harm_9 (by decide) (fun c3 => ?_) (fun c3 => ?_)
    · rw [if_pos c3] at h
      refine lv_lload_n hx hb d_Mo_harm_93 rfl (lv_at hl 1 rfl) ?_
      cases h
      exact W.lret hx hb hr (fun t ht hW => ⟨⟨rfl, by rw [ht]; exact hM⟩, hS.F ht⟩) hS.2.2 d_Mo_harm_94
    · rw [if_neg c3] at h
      refine lv_lload_n hx hb d_Mo_harm_12 rfl (lv_at hl 1 rfl) ?_
      refine mx_aload_n hx hb d_Mo_harm_13 rfl (lv_at hl 0 rfl) ?_
      obtain ⟨x4, e5, h⟩ := mx_b h
      refine mx_getr hx hb hts i_Mo hown hK hM e5 (ci := 4) (C := R_Mo) (T := T_Mo) (N := 23) rfl 19 (by decide) (hts _ wd_29) d_Mo_harm_14 ?_
      refine lv_iload_n hx hb d_Mo_harm_17 rfl (lv_at hl 2 rfl) ?_
      obtain ⟨x6, e7, h⟩ := mx_b h
      refine mx_lald hx hb hK hM e7 rfl d_Mo_harm_18 ?_
      refine mx_aload_n hx hb d_Mo_harm_19 rfl (lv_at hl 0 rfl) ?_
      obtain ⟨x8, e9, h⟩ := mx_b h
      refine mx_getr hx hb hts i_Mo hown hK hM e9 (ci := 4) (C := R_Mo) (T := T_Mo) (N := 23) rfl 12 (by decide) (hts _ wd_22) d_Mo_harm_20 ?_
      refine lv_iload_n hx hb d_Mo_harm_23 rfl (lv_at hl 2 rfl) ?_
      obtain ⟨x10, e11, h⟩ := mx_b h
      refine mx_lald hx hb hK hM e11 rfl d_Mo_harm_24 ?_
      refine mx_lcmp_le (tgt := 53) hx hb d_Mo_harm_25 d_Mo_harm_26 (by decide) (fun c12 => ?_) (fun c12 => ?_)
      · rw [if_pos c12] at h
        refine lv_lconst (v := 0) hx hb d_Mo_harm_53 (by decide) ?_
        refine lv_ladd hx hb d_Mo_harm_54 ?_
        refine lv_lstore_n (lv' := [(1, .long ((v1 + 0))), (0, va_rf v0), (3, .int v3)]) hx hb d_Mo_harm_55 rfl hl (by decide) (by simp [mx_cat, mx_cati, mx_catl, mx_catr]) (fun ls hl => ?_)
        refine lv_lload_n hx hb d_Mo_harm_56 rfl (lv_at hl 0 rfl) ?_
        refine mx_aload_n hx hb d_Mo_harm_57 rfl (lv_at hl 1 rfl) ?_
        obtain ⟨x13, e14, h⟩ := mx_b h
        refine mx_getr hx hb hts i_Mo hown hK hM e14 (ci := 4) (C := R_Mo) (T := T_Mo) (N := 23) rfl 14 (by decide) (hts _ wd_24) d_Mo_harm_58 ?_
        refine lv_iload_n hx hb d_Mo_harm_61 rfl (lv_at hl 2 rfl) ?_
        obtain ⟨x15, e16, h⟩ := mx_b h
        refine mx_iald hx hb hK hM e16 rfl d_Mo_harm_62 ?_
        refine lv_if_le (tgt := 84) hx hb d_Mo_harm_63 (by decide) (fun c17 => ?_) (fun c17 => ?_)
        · rw [if_pos c17] at h
          refine lv_lconst (v := 0) hx hb d_Mo_harm_84 (by decide) ?_
          refine lv_ladd hx hb d_Mo_harm_85 ?_
          refine lv_lstore_n (lv' := [(1, .long (((v1 + 0) + 0))), (0, va_rf v0), (3, .int v3)]) hx hb d_Mo_harm_86 rfl hl (by decide) (by simp [mx_cat, mx_cati, mx_catl, mx_catr]) (fun ls hl => ?_)
          refine lv_iinc (v := (v3 + 1)) (lv' := [(3, .int ((v3 + 1))), (1, .long (((v1 + 0) + 0))), (0, va_rf v0)]) hx hb d_Mo_harm_87 hl (k := 2) rfl rfl (by decide) rfl (fun ls hl => ?_)
          refine lv_goto (tgt := 4) hx hb d_Mo_harm_90 (by decide) ?_
          exact ih _ _ _ _ h _ _ _ (lv_sub hl [2, 1, 0] rfl) hM hS
        · rw [if_neg c17] at h
          refine mx_aload_n hx hb d_Mo_harm_66 rfl (lv_at hl 1 rfl) ?_
          obtain ⟨x18, e19, h⟩ := mx_b h
          refine mx_getr hx hb hts i_Mo hown hK hM e19 (ci := 4) (C := R_Mo) (T := T_Mo) (N := 23) rfl 18 (by decide) (hts _ wd_28) d_Mo_harm_67 ?_
          refine lv_iconst (v := 4) hx hb d_Mo_harm_70 (by decide) ?_
          refine lv_iload_n hx hb d_Mo_harm_71 rfl (lv_at hl 2 rfl) ?_
          refine lv_imul hx hb d_Mo_harm_72 ?_
          refine mx_aload_n hx hb d_Mo_harm_73 rfl (lv_at hl 1 rfl) ?_
          obtain ⟨x20, e21, h⟩ := mx_b h
          refine mx_getr hx hb hts i_Mo hown hK hM e21 (ci := 4) (C := R_Mo) (T := T_Mo) (N := 23) rfl 15 (by decide) (hts _ wd_25) d_Mo_harm_74 ?_
          refine lv_iload_n hx hb d_Mo_harm_77 rfl (lv_at hl 2 rfl) ?_
          obtain ⟨x22, e23, h⟩ := mx_b h
          refine mx_iald hx hb hK hM e23 rfl d_Mo_harm_78 ?_
          refine lv_iadd hx hb d_Mo_harm_79 ?_
          obtain ⟨x24, e25, h⟩ := mx_b h
          refine mx_lald hx hb hK hM e25 rfl d_Mo_harm_80 ?_
          refine lv_goto (tgt := 85) hx hb d_Mo_harm_81 (by decide) ?_
          refine lv_ladd hx hb d_Mo_harm_85 ?_
          refine lv_lstore_n (lv' := [(1, .long (((v1 + 0) + x24))), (0, va_rf v0), (3, .int v3)]) hx hb d_Mo_harm_86 rfl hl (by decide) (by simp [mx_cat, mx_cati, mx_catl, mx_catr]) (fun ls hl => ?_)
          refine lv_iinc (v := (v3 + 1)) (lv' := [(3, .int ((v3 + 1))), (1, .long (((v1 + 0) + x24))), (0, va_rf v0)]) hx hb d_Mo_harm_87 hl (k := 2) rfl rfl (by decide) rfl (fun ls hl => ?_)
          refine lv_goto (tgt := 4) hx hb d_Mo_harm_90 (by decide) ?_
          exact ih _ _ _ _ h _ _ _ (lv_sub hl [2, 1, 0] rfl) hM hS
      · rw [if_neg c12] at h
        refine mx_aload_n hx hb d_Mo_harm_29 rfl (lv_at hl 0 rfl) ?_
        obtain ⟨x13, e14, h⟩ := mx_b h
        refine mx_getr hx hb hts i_Mo hown hK hM e14 (ci := 4) (C := R_Mo) (T := T_Mo) (N := 23) rfl 13 (by decide) (hts _ wd_23) d_Mo_harm_30 ?_
        refine lv_iload_n hx hb d_Mo_harm_33 rfl (lv_at hl 2 rfl) ?_
        obtain ⟨x15, e16, h⟩ := mx_b h
        refine mx_iald hx hb hK hM e16 rfl d_Mo_harm_34 ?_
        refine lv_i2l hx hb d_Mo_harm_35 rfl ?_
        refine mx_aload_n hx hb d_Mo_harm_36 rfl (lv_at hl 0 rfl) ?_
        obtain ⟨x17, e18, h⟩ := mx_b h
        refine mx_getr hx hb hts i_Mo hown hK hM e18 (ci := 4) (C := R_Mo) (T := T_Mo) (N := 23) rfl 19 (by decide) (hts _ wd_29) d_Mo_harm_37 ?_
        refine lv_iload_n hx hb d_Mo_harm_40 rfl (lv_at hl 2 rfl) ?_
        obtain ⟨x19, e20, h⟩ := mx_b h
        refine mx_lald hx hb hK hM e20 rfl d_Mo_harm_41 ?_
        refine mx_aload_n hx hb d_Mo_harm_42 rfl (lv_at hl 0 rfl) ?_
        obtain ⟨x21, e22, h⟩ := mx_b h
        refine mx_getr hx hb hts i_Mo hown hK hM e22 (ci := 4) (C := R_Mo) (T := T_Mo) (N := 23) rfl 12 (by decide) (hts _ wd_22) d_Mo_harm_43 ?_
        refine lv_iload_n hx hb d_Mo_harm_46 rfl (lv_at hl 2 rfl) ?_
        obtain ⟨x23, e24, h⟩ := mx_b h
        refine mx_lald hx hb hK hM e24 rfl d_Mo_harm_47 ?_
        refine lv_lsub hx hb d_Mo_harm_48 ?_
        refine lv_lmul hx hb d_Mo_harm_49 ?_
        refine lv_goto (tgt := 54) hx hb d_Mo_harm_50 (by decide) ?_
        refine lv_ladd hx hb d_Mo_harm_54 ?_
        refine lv_lstore_n (lv' := [(1, .long ((v1 + (x15.toInt64 * (x19 - x23))))), (0, va_rf v0), (3, .int v3)]) hx hb d_Mo_harm_55 rfl hl (by decide) (by simp [mx_cat, mx_cati, mx_catl, mx_catr]) (fun ls hl => ?_)
        refine lv_lload_n hx hb d_Mo_harm_56 rfl (lv_at hl 0 rfl) ?_
        refine mx_aload_n hx hb d_Mo_harm_57 rfl (lv_at hl 1 rfl) ?_
        obtain ⟨x25, e26, h⟩ := mx_b h
        refine mx_getr hx hb hts i_Mo hown hK hM e26 (ci := 4) (C := R_Mo) (T := T_Mo) (N := 23) rfl 14 (by decide) (hts _ wd_24) d_Mo_harm_58 ?_
        refine lv_iload_n hx hb d_Mo_harm_61 rfl (lv_at hl 2 rfl) ?_
        obtain ⟨x27, e28, h⟩ := mx_b h
        refine mx_iald hx hb hK hM e28 rfl d_Mo_harm_62 ?_
        refine lv_if_le (tgt := 84) hx hb d_Mo_harm_63 (by decide) (fun c29 => ?_) (fun c29 => ?_)
        · rw [if_pos c29] at h
          refine lv_lconst (v := 0) hx hb d_Mo_harm_84 (by decide) ?_
          refine lv_ladd hx hb d_Mo_harm_85 ?_
          refine lv_lstore_n (lv' := [(1, .long (((v1 + (x15.toInt64 * (x19 - x23))) + 0))), (0, va_rf v0), (3, .int v3)]) hx hb d_Mo_harm_86 rfl hl (by decide) (by simp [mx_cat, mx_cati, mx_catl, mx_catr]) (fun ls hl => ?_)
          refine lv_iinc (v := (v3 + 1)) (lv' := [(3, .int ((v3 + 1))), (1, .long (((v1 + (x15.toInt64 * (x19 - x23))) + 0))), (0, va_rf v0)]) hx hb d_Mo_harm_87 hl (k := 2) rfl rfl (by decide) rfl (fun ls hl => ?_)
          refine lv_goto (tgt := 4) hx hb d_Mo_harm_90 (by decide) ?_
          exact ih _ _ _ _ h _ _ _ (lv_sub hl [2, 1, 0] rfl) hM hS
        · rw [if_neg c29] at h
          refine mx_aload_n hx hb d_Mo_harm_66 rfl (lv_at hl 1 rfl) ?_
          obtain ⟨x30, e31, h⟩ := mx_b h
          refine mx_getr hx hb hts i_Mo hown hK hM e31 (ci := 4) (C := R_Mo) (T := T_Mo) (N := 23) rfl 18 (by decide) (hts _ wd_28) d_Mo_harm_67 ?_
          refine lv_iconst (v := 4) hx hb d_Mo_harm_70 (by decide) ?_
          refine lv_iload_n hx hb d_Mo_harm_71 rfl (lv_at hl 2 rfl) ?_
          refine lv_imul hx hb d_Mo_harm_72 ?_
          refine mx_aload_n hx hb d_Mo_harm_73 rfl (lv_at hl 1 rfl) ?_
          obtain ⟨x32, e33, h⟩ := mx_b h
          refine mx_getr hx hb hts i_Mo hown hK hM e33 (ci := 4) (C := R_Mo) (T := T_Mo) (N := 23) rfl 15 (by decide) (hts _ wd_25) d_Mo_harm_74 ?_
          refine lv_iload_n hx hb d_Mo_harm_77 rfl (lv_at hl 2 rfl) ?_
          obtain ⟨x34, e35, h⟩ := mx_b h
          refine mx_iald hx hb hK hM e35 rfl d_Mo_harm_78 ?_
          refine lv_iadd hx hb d_Mo_harm_79 ?_
          obtain ⟨x36, e37, h⟩ := mx_b h
          refine mx_lald hx hb hK hM e37 rfl d_Mo_harm_80 ?_
          refine lv_goto (tgt := 85) hx hb d_Mo_harm_81 (by decide) ?_
          refine lv_ladd hx hb d_Mo_harm_85 ?_
          refine lv_lstore_n (lv' := [(1, .long (((v1 + (x15.toInt64 * (x19 - x23))) + x36))), (0, va_rf v0), (3, .int v3)]) hx hb d_Mo_harm_86 rfl hl (by decide) (by simp [mx_cat, mx_cati, mx_catl, mx_catr]) (fun ls hl => ?_)
          refine lv_iinc (v := (v3 + 1)) (lv' := [(3, .int ((v3 + 1))), (1, .long (((v1 + (x15.toInt64 * (x19 - x23))) + x36))), (0, va_rf v0)]) hx hb d_Mo_harm_87 hl (k := 2) rfl rfl (by decide) rfl (fun ls hl => ?_)
          refine lv_goto (tgt := 4) hx hb d_Mo_harm_90 (by decide) ?_
          exact ih _ _ _ _ h _ _ _ (lv_sub hl [2, 1, 0] rfl) hM hS
set_option maxHeartbeats 4000000 in
set_option maxRecDepth 100000 in
theorem c_Mo_harm (l : Launch) (G : mx_G) (a0 : Nat) (mem : mx_Mem) (q : Int64 × mx_Mem) (h : f_Mo_harm a0 mem = some q) : Met l y_Mo_harm (gq_w y_Mo_harm b_Mo_harm 4 (some .long)) { frames := 0, cells := 0, slots := 0, locals := 0 } (gq_P G [.ref a0] mem) (gq_Q G (some (.long q.1)) q.2) 0 0 (mx_A G) := by
  refine Met.ofW (cc := b_Mo_harm) (maxL := 4) (ret := (some .long)) (by decide) rfl ?_
  intro p e s m args below meth c s₁ B hml hv
  obtain ⟨rfl, hb0, hM, hK, hN⟩ := hv
  have CX : gq_C p (headSpec (gq_w y_Mo_harm b_Mo_harm 4 (some .long)) { frames := 0, cells := 0, slots := 0, locals := 0 }).room s m _ meth c G b_Mo_harm 4 (some .long) R_Mo 0 0 0 0 := ⟨B.exec, B.bytes, hml, B.returns, findClass_of_methodNamed B.named, fun w hw => atoms_spec (ws := gq_w y_Mo_harm b_Mo_harm 4 (some .long)) B.pre w (List.mem_cons_of_mem _ hw), B.notSynchronized, hK, hN, hb0, Nat.le_refl _, Nat.le_refl _, Nat.le_refl _, Nat.le_refl _⟩
  obtain ⟨hx, hb, hml, hr, hown, hts, hlocks, hK, hN, hb0, hRf, hRc, hRs, hRl⟩ := id CX
  have hS : va_S (mx_A G) s.heap s.heap [] := va_S.rf
  have hl := lv_entry [.ref a0] (n := 4) (Nat.le_of_ble_eq_true rfl)
  rw [lg_entry_eq]
  generalize (lg_sl [.ref a0] ++ List.replicate (4 - (lg_sl [.ref a0]).length) Slot.unset).toArray = ls at hl ⊢
  have hl : lv_has ls 4 [(0, va_rf (some a0))] := hl
  unfold f_Mo_harm at h
  refine lv_lconst (v := 0) hx hb d_Mo_harm_0 (by decide) ?_
  refine lv_lstore_n (lv' := [(1, .long 0), (0, va_rf (some a0))]) hx hb d_Mo_harm_1 rfl hl (by decide) (by simp [mx_cat, mx_cati, mx_catl, mx_catr]) (fun ls hl => ?_)
  refine lv_iconst (v := 1) hx hb d_Mo_harm_2 (by decide) ?_
  refine lv_istore_n (lv' := [(3, .int 1), (1, .long 0), (0, va_rf (some a0))]) hx hb d_Mo_harm_3 rfl hl (by decide) rfl (fun ls hl => ?_)
  refine wfl_Mo_harm_4 q CX  5000 _ _ _ _ h _ _ _ (lv_sub hl [2, 1, 0] rfl) hM hS
set_option maxHeartbeats 4000000 in
set_option maxRecDepth 100000 in
theorem wfl_Mo_actsNow_4 {p : Program} {l : Launch} {e : Env} {R : Room} {s : State} {m : MethodId} {args : Array Value} {below : List Frame} {meth : Method} {c : Code} {G : mx_G} (q : Int32 × mx_Mem) (CX : gq_C p R s m args meth c G b_Mo_actsNow 3 (some .int) R_Mo 0 0 0 0)  : ∀ (n : Nat) (v0 : Option Nat) (v1 : Int32) (v2 : Int32) (mem : mx_Mem), fl_Mo_actsNow_4  n v0 v1 v2 mem = some q → ∀ (H : Heap) (locs : List Loc) (ls : Array Slot), lv_has ls 3 [(0, va_rf v0), (1, .int v1), (2, .int v2)] → mx_M vwCl G mem H → va_S (mx_A G) s.heap H locs → W p l e R s m args below meth c H locs 0 0 (MQ below (gq_Q G (some (.int q.1)) q.2) args s 0 0 (mx_A G)) (F0 m 4 ls []) := by
  obtain ⟨hx, hb, hml, hr, hown, hts, hlocks, hK, hN, hb0, hRf, hRc, hRs, hRl⟩ := id CX
  intro n
  induction n with
  | zero => intro v0 v1 v2 mem h; rw [fl_Mo_actsNow_4] at h; cases h
  | succ n ih =>
    intro v0 v1 v2 mem h H locs ls hl hM hS
    rw [fl_Mo_actsNow_4] at h
    refine lv_iload_n hx hb d_Mo_actsNow_4 rfl (lv_at hl 2 rfl) ?_
    refine mx_aload_n hx hb d_Mo_actsNow_5 rfl (lv_at hl 0 rfl) ?_
    obtain ⟨x1, e2, h⟩ := mx_b h
    refine mx_geti hx hb hts i_Mo hown hK hM e2 (ci := 4) (C := R_Mo) (T := T_Mo) (N := 23) rfl 9 (by decide) (hts _ wd_142) d_Mo_actsNow_6 ?_
    refine lv_icmp_gt (tgt := 53) hx hb d_Mo_actsNow_9 (by decide) (fun c3 => ?_) (fun c3 => ?_)
    · rw [if_pos c3] at h
      refine lv_iload_n hx hb d_Mo_actsNow_53 rfl (lv_at hl 1 rfl) ?_
      cases h
      exact W.iret hx hb hr (fun t ht hW => ⟨⟨rfl, by rw [ht]; exact hM⟩, hS.F ht⟩) hS.2.2 d_Mo_actsNow_54
    · rw [if_neg c3] at h
      refine lv_iload_n hx hb d_Mo_actsNow_12 rfl (lv_at hl 1 rfl) ?_
      refine mx_aload_n hx hb d_Mo_actsNow_13 rfl (lv_at hl 0 rfl) ?_
      obtain ⟨x4, e5, h⟩ := mx_b h
      refine mx_getr hx hb hts i_Mo hown hK hM e5 (ci := 4) (C := R_Mo) (T := T_Mo) (N := 23) rfl 14 (by decide) (hts _ wd_24) d_Mo_actsNow_14 ?_
      refine lv_iload_n hx hb d_Mo_actsNow_17 rfl (lv_at hl 2 rfl) ?_
      obtain ⟨x6, e7, h⟩ := mx_b h
      refine mx_iald hx hb hK hM e7 rfl d_Mo_actsNow_18 ?_
      refine lv_if_le (tgt := 44) hx hb d_Mo_actsNow_19 (by decide) (fun c8 => ?_) (fun c8 => ?_)
      · rw [if_pos c8] at h
        refine lv_iconst (v := 0) hx hb d_Mo_actsNow_44 (by decide) ?_
        refine lv_iadd hx hb d_Mo_actsNow_45 ?_
        refine lv_istore_n (lv' := [(1, .int ((v1 + 0))), (0, va_rf v0), (2, .int v2)]) hx hb d_Mo_actsNow_46 rfl hl (by decide) (by simp [mx_cat, mx_cati, mx_catl, mx_catr]) (fun ls hl => ?_)
        refine lv_iinc (v := (v2 + 1)) (lv' := [(2, .int ((v2 + 1))), (1, .int ((v1 + 0))), (0, va_rf v0)]) hx hb d_Mo_actsNow_47 hl (k := 2) rfl rfl (by decide) rfl (fun ls hl => ?_)
        refine lv_goto (tgt := 4) hx hb d_Mo_actsNow_50 (by decide) ?_
        exact ih _ _ _ _ h _ _ _ (lv_sub hl [2, 1, 0] rfl) hM hS
      · rw [if_neg c8] at h
        refine mx_aload_n hx hb d_Mo_actsNow_22 rfl (lv_at hl 0 rfl) ?_
        obtain ⟨x9, e10, h⟩ := mx_b h
        refine mx_getr hx hb hts i_Mo hown hK hM e10 (ci := 4) (C := R_Mo) (T := T_Mo) (N := 23) rfl 16 (by decide) (hts _ wd_26) d_Mo_actsNow_23 ?_
        refine lv_iconst (v := 4) hx hb d_Mo_actsNow_26 (by decide) ?_
        refine lv_iload_n hx hb d_Mo_actsNow_27 rfl (lv_at hl 2 rfl) ?_
        refine lv_imul hx hb d_Mo_actsNow_28 ?_
        refine mx_aload_n hx hb d_Mo_actsNow_29 rfl (lv_at hl 0 rfl) ?_
        obtain ⟨x11, e12, h⟩ := mx_b h
        refine mx_getr hx hb hts i_Mo hown hK hM e12 (ci := 4) (C := R_Mo) (T := T_Mo) (N := 23) rfl 15 (by decide) (hts _ wd_25) d_Mo_actsNow_30 ?_
        refine lv_iload_n hx hb d_Mo_actsNow_33 rfl (lv_at hl 2 rfl) ?_
        obtain ⟨x13, e14, h⟩ := mx_b h
        refine mx_iald hx hb hK hM e14 rfl d_Mo_actsNow_34 ?_
        refine lv_iadd hx hb d_Mo_actsNow_35 ?_
        obtain ⟨x15, e16, h⟩ := mx_b h
        refine mx_iald hx hb hK hM e16 rfl d_Mo_actsNow_36 ?_
        refine lv_if_le (tgt := 44) hx hb d_Mo_actsNow_37 (by decide) (fun c17 => ?_) (fun c17 => ?_)
        · rw [if_pos c17] at h
          refine lv_iconst (v := 0) hx hb d_Mo_actsNow_44 (by decide) ?_
          refine lv_iadd hx hb d_Mo_actsNow_45 ?_
          refine lv_istore_n (lv' := [(1, .int ((v1 + 0))), (0, va_rf v0), (2, .int v2)]) hx hb d_Mo_actsNow_46 rfl hl (by decide) (by simp [mx_cat, mx_cati, mx_catl, mx_catr]) (fun ls hl => ?_)
          refine lv_iinc (v := (v2 + 1)) (lv' := [(2, .int ((v2 + 1))), (1, .int ((v1 + 0))), (0, va_rf v0)]) hx hb d_Mo_actsNow_47 hl (k := 2) rfl rfl (by decide) rfl (fun ls hl => ?_)
          refine lv_goto (tgt := 4) hx hb d_Mo_actsNow_50 (by decide) ?_
          exact ih _ _ _ _ h _ _ _ (lv_sub hl [2, 1, 0] rfl) hM hS
        · rw [if_neg c17] at h
          refine lv_iconst (v := 1) hx hb d_Mo_actsNow_40 (by decide) ?_
          refine lv_goto (tgt := 45) hx hb d_Mo_actsNow_41 (by decide) ?_
          refine lv_iadd hx hb d_Mo_actsNow_45 ?_
          refine lv_istore_n (lv' := [(1, .int ((v1 + 1))), (0, va_rf v0), (2, .int v2)]) hx hb d_Mo_actsNow_46 rfl hl (by decide) (by simp [mx_cat, mx_cati, mx_catl, mx_catr]) (fun ls hl => ?_)
          refine lv_iinc (v := (v2 + 1)) (lv' := [(2, .int ((v2 + 1))), (1, .int ((v1 + 1))), (0, va_rf v0)]) hx hb d_Mo_actsNow_47 hl (k := 2) rfl rfl (by decide) rfl (fun ls hl => ?_)
          refine lv_goto (tgt := 4) hx hb d_Mo_actsNow_50 (by decide) ?_
          exact ih _ _ _ _ h _ _ _ (lv_sub hl [2, 1, 0] rfl) hM hS
set_option maxHeartbeats 4000000 in
set_option maxRecDepth 100000 in
theorem c_Mo_actsNow (l : Launch) (G : mx_G) (a0 : Nat) (mem : mx_Mem) (q : Int32 × mx_Mem) (h : f_Mo_actsNow a0 mem = some q) : Met l y_Mo_actsNow (gq_w y_Mo_actsNow b_Mo_actsNow 3 (some .int)) { frames := 0, cells := 0, slots := 0, locals := 0 } (gq_P G [.ref a0] mem) (gq_Q G (some (.int q.1)) q.2) 0 0 (mx_A G) := by
  refine Met.ofW (cc := b_Mo_actsNow) (maxL := 3) (ret := (some .int)) (by decide) rfl ?_
  intro p e s m args below meth c s₁ B hml hv
  obtain ⟨rfl, hb0, hM, hK, hN⟩ := hv
  have CX : gq_C p (headSpec (gq_w y_Mo_actsNow b_Mo_actsNow 3 (some .int)) { frames := 0, cells := 0, slots := 0, locals := 0 }).room s m _ meth c G b_Mo_actsNow 3 (some .int) R_Mo 0 0 0 0 := ⟨B.exec, B.bytes, hml, B.returns, findClass_of_methodNamed B.named, fun w hw => atoms_spec (ws := gq_w y_Mo_actsNow b_Mo_actsNow 3 (some .int)) B.pre w (List.mem_cons_of_mem _ hw), B.notSynchronized, hK, hN, hb0, Nat.le_refl _, Nat.le_refl _, Nat.le_refl _, Nat.le_refl _⟩
  obtain ⟨hx, hb, hml, hr, hown, hts, hlocks, hK, hN, hb0, hRf, hRc, hRs, hRl⟩ := id CX
  have hS : va_S (mx_A G) s.heap s.heap [] := va_S.rf
  have hl := lv_entry [.ref a0] (n := 3) (Nat.le_of_ble_eq_true rfl)
  rw [lg_entry_eq]
  generalize (lg_sl [.ref a0] ++ List.replicate (3 - (lg_sl [.ref a0]).length) Slot.unset).toArray = ls at hl ⊢
  have hl : lv_has ls 3 [(0, va_rf (some a0))] := hl
  unfold f_Mo_actsNow at h
  refine lv_iconst (v := 0) hx hb d_Mo_actsNow_0 (by decide) ?_
  refine lv_istore_n (lv' := [(1, .int 0), (0, va_rf (some a0))]) hx hb d_Mo_actsNow_1 rfl hl (by decide) (by simp [mx_cat, mx_cati, mx_catl, mx_catr]) (fun ls hl => ?_)
  refine lv_iconst (v := 1) hx hb d_Mo_actsNow_2 (by decide) ?_
  refine lv_istore_n (lv' := [(2, .int 1), (1, .int 0), (0, va_rf (some a0))]) hx hb d_Mo_actsNow_3 rfl hl (by decide) rfl (fun ls hl => ?_)
  refine wfl_Mo_actsNow_4 q CX  5000 _ _ _ _ h _ _ _ (lv_sub hl [2, 1, 0] rfl) hM hS
end
section
set_option maxHeartbeats 4000000 in
set_option maxRecDepth 100000 in
theorem wfl_Mo_next_5 {p : Program} {l : Launch} {e : Env} {R : Room} {s : State} {m : MethodId} {args : Array Value} {below : List Frame} {meth : Method} {c : Code} {G : mx_G} (q : Int32 × mx_Mem) (CX : gq_C p R s m args meth c G b_Mo_next 2 (some .boolean) R_Mo 0 0 0 0) {k0 : Option Nat → Int32 → mx_Mem → Option (Int32 × mx_Mem)} (hk0 : ∀ (v0 : Option Nat) (v1 : Int32) (mem : mx_Mem), k0 v0 v1 mem = some q → ∀ (H : Heap) (locs : List Loc) (ls : Array Slot), lv_has ls 2 [(0, va_rf v0), (1, .int v1)] → mx_M vwCl G mem H → va_S (mx_A G) s.heap H locs → W p l e R s m args below meth c H locs 0 0 (MQ below (gq_Q G (some (.int q.1)) q.2) args s 0 0 (mx_A G)) (F0 m 39 ls [])) : ∀ (n : Nat) (v0 : Option Nat) (v1 : Int32) (mem : mx_Mem), fl_Mo_next_5 k0 n v0 v1 mem = some q → ∀ (H : Heap) (locs : List Loc) (ls : Array Slot), lv_has ls 2 [(0, va_rf v0), (1, .int v1)] → mx_M vwCl G mem H → va_S (mx_A G) s.heap H locs → W p l e R s m args below meth c H locs 0 0 (MQ below (gq_Q G (some (.int q.1)) q.2) args s 0 0 (mx_A G)) (F0 m 5 ls []) := by
  obtain ⟨hx, hb, hml, hr, hown, hts, hlocks, hK, hN, hb0, hRf, hRc, hRs, hRl⟩ := id CX
  intro n
  induction n with
  | zero => intro v0 v1 mem h; rw [fl_Mo_next_5] at h; cases h
  | succ n ih =>
    intro v0 v1 mem h H locs ls hl hM hS
    rw [fl_Mo_next_5] at h
    refine lv_iload_n hx hb d_Mo_next_5 rfl (lv_at hl 1 rfl) ?_
    refine lv_if_le (tgt := 39) hx hb d_Mo_next_6 (by decide) (fun c1 => ?_) (fun c1 => ?_)
    · rw [if_pos c1] at h
      exact hk0 _ _ _ h _ _ _ (lv_sub hl [0, 1] rfl) hM hS
    · rw [if_neg c1] at h
      refine mx_aload_n hx hb d_Mo_next_9 rfl (lv_at hl 0 rfl) ?_
      obtain ⟨x2, e3, h⟩ := mx_b h
      refine mx_getr hx hb hts i_Mo hown hK hM e3 (ci := 4) (C := R_Mo) (T := T_Mo) (N := 23) rfl 15 (by decide) (hts _ wd_25) d_Mo_next_10 ?_
      refine lv_iload_n hx hb d_Mo_next_13 rfl (lv_at hl 1 rfl) ?_
      obtain ⟨x4, e5, h⟩ := mx_b h
      refine mx_iald hx hb hK hM e5 rfl d_Mo_next_14 ?_
      refine lv_iconst (v := 1) hx hb d_Mo_next_15 (by decide) ?_
      refine lv_iadd hx hb d_Mo_next_16 ?_
      refine mx_aload_n hx hb d_Mo_next_17 rfl (lv_at hl 0 rfl) ?_
      obtain ⟨x6, e7, h⟩ := mx_b h
      refine mx_getr hx hb hts i_Mo hown hK hM e7 (ci := 4) (C := R_Mo) (T := T_Mo) (N := 23) rfl 14 (by decide) (hts _ wd_24) d_Mo_next_18 ?_
      refine lv_iload_n hx hb d_Mo_next_21 rfl (lv_at hl 1 rfl) ?_
      obtain ⟨x8, e9, h⟩ := mx_b h
      refine mx_iald hx hb hK hM e9 rfl d_Mo_next_22 ?_
      refine lv_icmp_lt (tgt := 39) hx hb d_Mo_next_23 (by decide) (fun c10 => ?_) (fun c10 => ?_)
      · rw [if_pos c10] at h
        exact hk0 _ _ _ h _ _ _ (lv_sub hl [0, 1] rfl) hM hS
      · rw [if_neg c10] at h
        refine mx_aload_n hx hb d_Mo_next_26 rfl (lv_at hl 0 rfl) ?_
        obtain ⟨x11, e12, h⟩ := mx_b h
        refine mx_getr hx hb hts i_Mo hown hK hM e12 (ci := 4) (C := R_Mo) (T := T_Mo) (N := 23) rfl 15 (by decide) (hts _ wd_25) d_Mo_next_27 ?_
        refine lv_iload_n hx hb d_Mo_next_30 rfl (lv_at hl 1 rfl) ?_
        refine lv_iconst (v := 0) hx hb d_Mo_next_31 (by decide) ?_
        obtain ⟨m14, e13, h⟩ := mx_b h
        refine mx_iast hx hb hK hM hS e13 rfl d_Mo_next_32 (fun H locs hM hS => ?_)
        refine lv_iinc (v := (v1 + (-1))) (lv' := [(1, .int ((v1 + (-1)))), (0, va_rf v0)]) hx hb d_Mo_next_33 hl (k := 1) rfl rfl (by decide) (by simp [mx_cat, mx_cati, mx_catl, mx_catr]) (fun ls hl => ?_)
        refine lv_goto (tgt := 5) hx hb d_Mo_next_36 (by decide) ?_
        exact ih _ _ _ h _ _ _ (lv_sub hl [1, 0] rfl) hM hS
set_option maxHeartbeats 4000000 in
set_option maxRecDepth 100000 in
theorem wfj_Mo_next_39 {p : Program} {l : Launch} {e : Env} {R : Room} {s : State} {m : MethodId} {args : Array Value} {below : List Frame} {meth : Method} {c : Code} {G : mx_G} (q : Int32 × mx_Mem) (CX : gq_C p R s m args meth c G b_Mo_next 2 (some .boolean) R_Mo 0 0 0 0) (v0 : Option Nat) (v1 : Int32) (mem : mx_Mem) (h : fj_Mo_next_39 v0 v1 mem = some q) (H : Heap) (locs : List Loc) (ls : Array Slot) (hl : lv_has ls 2 [(0, va_rf v0), (1, .int v1)]) (hM : mx_M vwCl G mem H) (hS : va_S (mx_A G) s.heap H locs) : W p l e R s m args below meth c H locs 0 0 (MQ below (gq_Q G (some (.int q.1)) q.2) args s 0 0 (mx_A G)) (F0 m 39 ls []) := by
  obtain ⟨hx, hb, hml, hr, hown, hts, hlocks, hK, hN, hb0, hRf, hRc, hRs, hRl⟩ := id CX
  rw [fj_Mo_next_39] at h
  refine lv_iload_n hx hb d_Mo_next_39 rfl (lv_at hl 1 rfl) ?_
  refine lv_if_le (tgt := 53) hx hb d_Mo_next_40 (by decide) (fun c1 => ?_) (fun c1 => ?_)
  · rw [if_pos c1] at h
    refine lv_iload_n hx hb d_Mo_next_53 rfl (lv_at hl 1 rfl) ?_
    refine lv_if_le (tgt := 61) hx hb d_Mo_next_54 (by decide) (fun c2 => ?_) (fun c2 => ?_)
    · rw [if_pos c2] at h
      refine lv_iconst (v := 0) hx hb d_Mo_next_61 (by decide) ?_
      cases h
      exact W.zret hx hb hr rfl (fun t ht hW => ⟨⟨rfl, by rw [ht]; exact hM⟩, hS.F ht⟩) hS.2.2 d_Mo_next_62
    · rw [if_neg c2] at h
      refine lv_iconst (v := 1) hx hb d_Mo_next_57 (by decide) ?_
      refine lv_goto (tgt := 62) hx hb d_Mo_next_58 (by decide) ?_
      cases h
      exact W.zret hx hb hr rfl (fun t ht hW => ⟨⟨rfl, by rw [ht]; exact hM⟩, hS.F ht⟩) hS.2.2 d_Mo_next_62
  · rw [if_neg c1] at h
    refine mx_aload_n hx hb d_Mo_next_43 rfl (lv_at hl 0 rfl) ?_
    obtain ⟨x2, e3, h⟩ := mx_b h
    refine mx_getr hx hb hts i_Mo hown hK hM e3 (ci := 4) (C := R_Mo) (T := T_Mo) (N := 23) rfl 15 (by decide) (hts _ wd_25) d_Mo_next_44 ?_
    refine lv_iload_n hx hb d_Mo_next_47 rfl (lv_at hl 1 rfl) ?_
    refine lv_dup2_11 hx hb d_Mo_next_48 rfl (mx_cat _) ?_
    obtain ⟨x4, e5, h⟩ := mx_b h
    refine mx_iald hx hb hK hM e5 rfl d_Mo_next_49 ?_
    refine lv_iconst (v := 1) hx hb d_Mo_next_50 (by decide) ?_
    refine lv_iadd hx hb d_Mo_next_51 ?_
    obtain ⟨m7, e6, h⟩ := mx_b h
    refine mx_iast hx hb hK hM hS e6 rfl d_Mo_next_52 (fun H locs hM hS => ?_)
    refine lv_iload_n hx hb d_Mo_next_53 rfl (lv_at hl 1 rfl) ?_
    refine lv_if_le (tgt := 61) hx hb d_Mo_next_54 (by decide) (fun c8 => ?_) (fun c8 => ?_)
    · rw [if_pos c8] at h
      refine lv_iconst (v := 0) hx hb d_Mo_next_61 (by decide) ?_
      cases h
      exact W.zret hx hb hr rfl (fun t ht hW => ⟨⟨rfl, by rw [ht]; exact hM⟩, hS.F ht⟩) hS.2.2 d_Mo_next_62
    · rw [if_neg c8] at h
      refine lv_iconst (v := 1) hx hb d_Mo_next_57 (by decide) ?_
      refine lv_goto (tgt := 62) hx hb d_Mo_next_58 (by decide) ?_
      cases h
      exact W.zret hx hb hr rfl (fun t ht hW => ⟨⟨rfl, by rw [ht]; exact hM⟩, hS.F ht⟩) hS.2.2 d_Mo_next_62
set_option maxHeartbeats 4000000 in
set_option maxRecDepth 100000 in
theorem c_Mo_next (l : Launch) (G : mx_G) (a0 : Nat) (mem : mx_Mem) (q : Int32 × mx_Mem) (h : f_Mo_next a0 mem = some q) : Met l y_Mo_next (gq_w y_Mo_next b_Mo_next 2 (some .boolean)) { frames := 0, cells := 0, slots := 0, locals := 0 } (gq_P G [.ref a0] mem) (gq_Q G (some (.int q.1)) q.2) 0 0 (mx_A G) := by
  refine Met.ofW (cc := b_Mo_next) (maxL := 2) (ret := (some .boolean)) (by decide) rfl ?_
  intro p e s m args below meth c s₁ B hml hv
  obtain ⟨rfl, hb0, hM, hK, hN⟩ := hv
  have CX : gq_C p (headSpec (gq_w y_Mo_next b_Mo_next 2 (some .boolean)) { frames := 0, cells := 0, slots := 0, locals := 0 }).room s m _ meth c G b_Mo_next 2 (some .boolean) R_Mo 0 0 0 0 := ⟨B.exec, B.bytes, hml, B.returns, findClass_of_methodNamed B.named, fun w hw => atoms_spec (ws := gq_w y_Mo_next b_Mo_next 2 (some .boolean)) B.pre w (List.mem_cons_of_mem _ hw), B.notSynchronized, hK, hN, hb0, Nat.le_refl _, Nat.le_refl _, Nat.le_refl _, Nat.le_refl _⟩
  obtain ⟨hx, hb, hml, hr, hown, hts, hlocks, hK, hN, hb0, hRf, hRc, hRs, hRl⟩ := id CX
  have hS : va_S (mx_A G) s.heap s.heap [] := va_S.rf
  have hl := lv_entry [.ref a0] (n := 2) (Nat.le_of_ble_eq_true rfl)
  rw [lg_entry_eq]
  generalize (lg_sl [.ref a0] ++ List.replicate (2 - (lg_sl [.ref a0]).length) Slot.unset).toArray = ls at hl ⊢
  have hl : lv_has ls 2 [(0, va_rf (some a0))] := hl
  unfold f_Mo_next at h
  refine mx_aload_n hx hb d_Mo_next_0 rfl (lv_at hl 0 rfl) ?_
  obtain ⟨x1, e2, h⟩ := mx_b h
  refine mx_geti hx hb hts i_Mo hown hK hM e2 (ci := 4) (C := R_Mo) (T := T_Mo) (N := 23) rfl 9 (by decide) (hts _ wd_142) d_Mo_next_1 ?_
  refine lv_istore_n (lv' := [(1, .int x1), (0, va_rf (some a0))]) hx hb d_Mo_next_4 rfl hl (by decide) (by simp [mx_cat, mx_cati, mx_catl, mx_catr]) (fun ls hl => ?_)
  refine wfl_Mo_next_5 q CX ?_ 5000 _ _ _ h _ _ _ (lv_sub hl [1, 0] rfl) hM hS
  · intro v0 v1 m3 h H locs ls hl hM hS
    exact wfj_Mo_next_39 q CX _ _ _ h _ _ _ (lv_sub hl [0, 1] rfl) hM hS
set_option maxHeartbeats 4000000 in
set_option maxRecDepth 100000 in
theorem wfl_Mo_solve_7 {p : Program} {l : Launch} {e : Env} {R : Room} {s : State} {m : MethodId} {args : Array Value} {below : List Frame} {meth : Method} {c : Code} {G : mx_G} (q : Int64 × mx_Mem) (CX : gq_C p R s m args meth c G b_Mo_solve 10 (some .long) R_Mo 3 0 0 76) {k0 : Option Nat → mx_Mem → Option (Int64 × mx_Mem)} (hk0 : ∀ (v0 : Option Nat) (mem : mx_Mem), k0 v0 mem = some q → ∀ (H : Heap) (locs : List Loc) (ls : Array Slot), lv_has ls 10 [(0, va_rf v0)] → mx_M vwCl G mem H → va_S (mx_A G) s.heap H locs → W p l e R s m args below meth c H locs 0 0 (MQ below (gq_Q G (some (.long q.1)) q.2) args s 0 0 (mx_A G)) (F0 m 28 ls [])) : ∀ (n : Nat) (v0 : Option Nat) (v1 : Int32) (mem : mx_Mem), fl_Mo_solve_7 k0 n v0 v1 mem = some q → ∀ (H : Heap) (locs : List Loc) (ls : Array Slot), lv_has ls 10 [(0, va_rf v0), (1, .int v1)] → mx_M vwCl G mem H → va_S (mx_A G) s.heap H locs → W p l e R s m args below meth c H locs 0 0 (MQ below (gq_Q G (some (.long q.1)) q.2) args s 0 0 (mx_A G)) (F0 m 7 ls []) := by
  obtain ⟨hx, hb, hml, hr, hown, hts, hlocks, hK, hN, hb0, hRf, hRc, hRs, hRl⟩ := id CX
  intro n
  induction n with
  | zero => intro v0 v1 mem h; rw [fl_Mo_solve_7] at h; cases h
  | succ n ih =>
    intro v0 v1 mem h H locs ls hl hM hS
    rw [fl_Mo_solve_7] at h
    refine lv_iload_n hx hb d_Mo_solve_7 rfl (lv_at hl 1 rfl) ?_
    refine mx_aload_n hx hb d_Mo_solve_8 rfl (lv_at hl 0 rfl) ?_
    obtain ⟨x1, e2, h⟩ := mx_b h
    refine mx_geti hx hb hts i_Mo hown hK hM e2 (ci := 4) (C := R_Mo) (T := T_Mo) (N := 23) rfl 9 (by decide) (hts _ wd_142) d_Mo_solve_9 ?_
    refine lv_icmp_gt (tgt := 28) hx hb d_Mo_solve_12 (by decide) (fun c3 => ?_) (fun c3 => ?_)
    · rw [if_pos c3] at h
      exact hk0 _ _ h _ _ _ (lv_sub hl [0] rfl) hM hS
    · rw [if_neg c3] at h
      refine mx_aload_n hx hb d_Mo_solve_15 rfl (lv_at hl 0 rfl) ?_
      obtain ⟨x4, e5, h⟩ := mx_b h
      refine mx_getr hx hb hts i_Mo hown hK hM e5 (ci := 4) (C := R_Mo) (T := T_Mo) (N := 23) rfl 15 (by decide) (hts _ wd_25) d_Mo_solve_16 ?_
      refine lv_iload_n hx hb d_Mo_solve_19 rfl (lv_at hl 1 rfl) ?_
      refine lv_iconst (v := 0) hx hb d_Mo_solve_20 (by decide) ?_
      obtain ⟨m7, e6, h⟩ := mx_b h
      refine mx_iast hx hb hK hM hS e6 rfl d_Mo_solve_21 (fun H locs hM hS => ?_)
      refine lv_iinc (v := (v1 + 1)) (lv' := [(1, .int ((v1 + 1))), (0, va_rf v0)]) hx hb d_Mo_solve_22 hl (k := 1) rfl rfl (by decide) (by simp [mx_cat, mx_cati, mx_catl, mx_catr]) (fun ls hl => ?_)
      refine lv_goto (tgt := 7) hx hb d_Mo_solve_25 (by decide) ?_
      exact ih _ _ _ h _ _ _ (lv_sub hl [1, 0] rfl) hM hS
set_option maxHeartbeats 4000000 in
set_option maxRecDepth 100000 in
theorem wfl_Mo_solve_96 {p : Program} {l : Launch} {e : Env} {R : Room} {s : State} {m : MethodId} {args : Array Value} {below : List Frame} {meth : Method} {c : Code} {G : mx_G} (q : Int64 × mx_Mem) (CX : gq_C p R s m args meth c G b_Mo_solve 10 (some .long) R_Mo 3 0 0 76) {k0 : Option Nat → Int64 → Int32 → Int32 → mx_Mem → Option (Int64 × mx_Mem)} (hk0 : ∀ (v0 : Option Nat) (v1 : Int64) (v3 : Int32) (v4 : Int32) (mem : mx_Mem), k0 v0 v1 v3 v4 mem = some q → ∀ (H : Heap) (locs : List Loc) (ls : Array Slot), lv_has ls 10 [(0, va_rf v0), (1, .long v1), (3, .int v3), (4, .int v4)] → mx_M vwCl G mem H → va_S (mx_A G) s.heap H locs → W p l e R s m args below meth c H locs 0 0 (MQ below (gq_Q G (some (.long q.1)) q.2) args s 0 0 (mx_A G)) (F0 m 125 ls [])) : ∀ (n : Nat) (v0 : Option Nat) (v1 : Int64) (v3 : Int32) (v4 : Int32) (v9 : Int32) (mem : mx_Mem), fl_Mo_solve_96 k0 n v0 v1 v3 v4 v9 mem = some q → ∀ (H : Heap) (locs : List Loc) (ls : Array Slot), lv_has ls 10 [(0, va_rf v0), (1, .long v1), (3, .int v3), (4, .int v4), (9, .int v9)] → mx_M vwCl G mem H → va_S (mx_A G) s.heap H locs → W p l e R s m args below meth c H locs 0 0 (MQ below (gq_Q G (some (.long q.1)) q.2) args s 0 0 (mx_A G)) (F0 m 96 ls []) := by
  obtain ⟨hx, hb, hml, hr, hown, hts, hlocks, hK, hN, hb0, hRf, hRc, hRs, hRl⟩ := id CX
  intro n
  induction n with
  | zero => intro v0 v1 v3 v4 v9 mem h; rw [fl_Mo_solve_96] at h; cases h
  | succ n ih =>
    intro v0 v1 v3 v4 v9 mem h H locs ls hl hM hS
    rw [fl_Mo_solve_96] at h
    refine lv_iload hx hb d_Mo_solve_96 (lv_at hl 4 rfl) ?_
    refine mx_aload_n hx hb d_Mo_solve_98 rfl (lv_at hl 0 rfl) ?_
    obtain ⟨x1, e2, h⟩ := mx_b h
    refine mx_geti hx hb hts i_Mo hown hK hM e2 (ci := 4) (C := R_Mo) (T := T_Mo) (N := 23) rfl 9 (by decide) (hts _ wd_142) d_Mo_solve_99 ?_
    refine lv_icmp_gt (tgt := 125) hx hb d_Mo_solve_102 (by decide) (fun c3 => ?_) (fun c3 => ?_)
    · rw [if_pos c3] at h
      exact hk0 _ _ _ _ _ h _ _ _ (lv_sub hl [0, 1, 2, 3] rfl) hM hS
    · rw [if_neg c3] at h
      refine mx_aload_n hx hb d_Mo_solve_105 rfl (lv_at hl 0 rfl) ?_
      obtain ⟨x4, e5, h⟩ := mx_b h
      refine mx_getr hx hb hts i_Mo hown hK hM e5 (ci := 4) (C := R_Mo) (T := T_Mo) (N := 23) rfl 21 (by decide) (hts _ wd_32) d_Mo_solve_106 ?_
      refine lv_iload hx hb d_Mo_solve_109 (lv_at hl 4 rfl) ?_
      refine mx_aload_n hx hb d_Mo_solve_111 rfl (lv_at hl 0 rfl) ?_
      obtain ⟨x6, e7, h⟩ := mx_b h
      refine mx_getr hx hb hts i_Mo hown hK hM e7 (ci := 4) (C := R_Mo) (T := T_Mo) (N := 23) rfl 15 (by decide) (hts _ wd_25) d_Mo_solve_112 ?_
      refine lv_iload hx hb d_Mo_solve_115 (lv_at hl 4 rfl) ?_
      obtain ⟨x8, e9, h⟩ := mx_b h
      refine mx_iald hx hb hK hM e9 rfl d_Mo_solve_117 ?_
      obtain ⟨m11, e10, h⟩ := mx_b h
      refine mx_iast hx hb hK hM hS e10 rfl d_Mo_solve_118 (fun H locs hM hS => ?_)
      refine lv_iinc (v := (v9 + 1)) (lv' := [(9, .int ((v9 + 1))), (0, va_rf v0), (1, .long v1), (3, .int v3), (4, .int v4)]) hx hb d_Mo_solve_119 hl (k := 4) rfl rfl (by decide) rfl (fun ls hl => ?_)
      refine lv_goto (tgt := 96) hx hb d_Mo_solve_122 (by decide) ?_
      exact ih _ _ _ _ _ _ h _ _ _ (lv_sub hl [1, 2, 3, 4, 0] rfl) hM hS
set_option maxHeartbeats 4000000 in
set_option maxRecDepth 100000 in
theorem wfl_Mo_solve_38 {p : Program} {l : Launch} {e : Env} {R : Room} {s : State} {m : MethodId} {args : Array Value} {below : List Frame} {meth : Method} {c : Code} {G : mx_G} (q : Int64 × mx_Mem) (CX : gq_C p R s m args meth c G b_Mo_solve 10 (some .long) R_Mo 3 0 0 76) {k0 : Option Nat → Int64 → mx_Mem → Option (Int64 × mx_Mem)} (hk0 : ∀ (v0 : Option Nat) (v1 : Int64) (mem : mx_Mem), k0 v0 v1 mem = some q → ∀ (H : Heap) (locs : List Loc) (ls : Array Slot), lv_has ls 10 [(0, va_rf v0), (1, .long v1)] → mx_M vwCl G mem H → va_S (mx_A G) s.heap H locs → W p l e R s m args below meth c H locs 0 0 (MQ below (gq_Q G (some (.long q.1)) q.2) args s 0 0 (mx_A G)) (F0 m 134 ls [])) : ∀ (n : Nat) (v0 : Option Nat) (v1 : Int64) (v3 : Int32) (v4 : Int32) (v5 : Int32) (mem : mx_Mem), fl_Mo_solve_38 k0 n v0 v1 v3 v4 v5 mem = some q → ∀ (H : Heap) (locs : List Loc) (ls : Array Slot), lv_has ls 10 [(0, va_rf v0), (1, .long v1), (3, .int v3), (4, .int v4), (5, .int v5)] → mx_M vwCl G mem H → va_S (mx_A G) s.heap H locs → W p l e R s m args below meth c H locs 0 0 (MQ below (gq_Q G (some (.long q.1)) q.2) args s 0 0 (mx_A G)) (F0 m 38 ls []) := by
  obtain ⟨hx, hb, hml, hr, hown, hts, hlocks, hK, hN, hb0, hRf, hRc, hRs, hRl⟩ := id CX
  intro n
  induction n with
  | zero => intro v0 v1 v3 v4 v5 mem h; rw [fl_Mo_solve_38] at h; cases h
  | succ n ih =>
    intro v0 v1 v3 v4 v5 mem h H locs ls hl hM hS
    rw [fl_Mo_solve_38] at h
    refine lv_iload hx hb d_Mo_solve_38 (lv_at hl 4 rfl) ?_
    refine lv_if_eq (tgt := 134) hx hb d_Mo_solve_40 (by decide) (fun c1 => ?_) (fun c1 => ?_)
    · rw [if_pos c1] at h
      exact hk0 _ _ _ h _ _ _ (lv_sub hl [0, 1] rfl) hM hS
    · rw [if_neg c1] at h
      refine mx_aload_n hx hb d_Mo_solve_43 rfl (lv_at hl 0 rfl) ?_
      obtain ⟨a5, e4, h⟩ := mx_b h
      obtain ⟨q2, e3, h⟩ := mx_b h
      have e6 := mx_c_eq e4
      refine W.eq (g2 := F0 m 44 ls [.ref a5]) (congrArg (fun z => F0 m 44 ls [va_rf z]) e6) ?_
      refine gq_go (va_runV (b := a5) (As := []) (rest := []) ⟨hx, hb, hml, hown, hts⟩ (c_Mo_reckon l G a5  _ _ e3) (cwV 0 hts (gq_gV wd_211 wd_212 wd_213 wd_114 wd_210) rfl rfl rfl (by decide +kernel) ⟨Nat.le_trans (Nat.le_of_ble_eq_true rfl) hRf, Nat.le_trans (Nat.le_of_ble_eq_true rfl) hRl⟩) (gq_preV hK hN hM hS hb0 e4 (C := R_Mo) (T := T_Mo) (N := 23) rfl) rfl rfl hl.1 rfl (lv_room (Nat.le_of_ble_eq_true rfl)) d_Mo_solve_44 ⟨Nat.le_trans (Nat.le_of_ble_eq_true rfl) hRc, Nat.le_trans (Nat.le_of_ble_eq_true rfl) hRs⟩) hS (fun H locs hM hS => ?_)
      refine W.eq (g2 := F0 m 47 ls []) rfl ?_
      refine mx_aload_n hx hb d_Mo_solve_47 rfl (lv_at hl 0 rfl) ?_
      obtain ⟨a10, e9, h⟩ := mx_b h
      obtain ⟨q7, e8, h⟩ := mx_b h
      have e11 := mx_c_eq e9
      refine W.eq (g2 := F0 m 48 ls [.ref a10]) (congrArg (fun z => F0 m 48 ls [va_rf z]) e11) ?_
      refine gq_go (va_runV (b := a10) (As := []) (rest := []) ⟨hx, hb, hml, hown, hts⟩ (c_Mo_harm l G a10  _ _ e8) (cwV 0 hts (gq_gV wd_278 wd_279 wd_280 wd_114 wd_277) rfl rfl rfl (by decide +kernel) ⟨Nat.le_trans (Nat.le_of_ble_eq_true rfl) hRf, Nat.le_trans (Nat.le_of_ble_eq_true rfl) hRl⟩) (gq_preV hK hN hM hS hb0 e9 (C := R_Mo) (T := T_Mo) (N := 23) rfl) rfl rfl hl.1 rfl (lv_room (Nat.le_of_ble_eq_true rfl)) d_Mo_solve_48 ⟨Nat.le_trans (Nat.le_of_ble_eq_true rfl) hRc, Nat.le_trans (Nat.le_of_ble_eq_true rfl) hRs⟩) hS (fun H locs hM hS => ?_)
      refine W.eq (g2 := F0 m 51 ls [.long q7.1]) rfl ?_
      refine lv_lstore (lv' := [(6, .long q7.1), (0, va_rf v0), (1, .long v1), (3, .int v3), (4, .int v4), (5, .int v5)]) hx hb d_Mo_solve_51 hl (by decide) rfl (fun ls hl => ?_)
      refine mx_aload_n hx hb d_Mo_solve_53 rfl (lv_at hl 1 rfl) ?_
      obtain ⟨a15, e14, h⟩ := mx_b h
      obtain ⟨q12, e13, h⟩ := mx_b h
      have e16 := mx_c_eq e14
      refine W.eq (g2 := F0 m 54 ls [.ref a15]) (congrArg (fun z => F0 m 54 ls [va_rf z]) e16) ?_
      refine gq_go (va_runV (b := a15) (As := []) (rest := []) ⟨hx, hb, hml, hown, hts⟩ (c_Mo_actsNow l G a15  _ _ e13) (cwV 0 hts (gq_gV wd_282 wd_283 wd_284 wd_114 wd_281) rfl rfl rfl (by decide +kernel) ⟨Nat.le_trans (Nat.le_of_ble_eq_true rfl) hRf, Nat.le_trans (Nat.le_of_ble_eq_true rfl) hRl⟩) (gq_preV hK hN hM hS hb0 e14 (C := R_Mo) (T := T_Mo) (N := 23) rfl) rfl rfl hl.1 rfl (lv_room (Nat.le_of_ble_eq_true rfl)) d_Mo_solve_54 ⟨Nat.le_trans (Nat.le_of_ble_eq_true rfl) hRc, Nat.le_trans (Nat.le_of_ble_eq_true rfl) hRs⟩) hS (fun H locs hM hS => ?_)
      refine W.eq (g2 := F0 m 57 ls [.int q12.1]) rfl ?_
      refine lv_istore (lv' := [(8, .int q12.1), (6, .long q7.1), (0, va_rf v0), (1, .long v1), (3, .int v3), (4, .int v4), (5, .int v5)]) hx hb d_Mo_solve_57 hl (by decide) rfl (fun ls hl => ?_)
      refine lv_iload hx hb d_Mo_solve_59 (lv_at hl 5 rfl) ?_
      refine lv_if_eq (tgt := 84) hx hb d_Mo_solve_61 (by decide) (fun c17 => ?_) (fun c17 => ?_)
      · rw [if_pos c17] at h
        refine lv_iconst (v := 1) hx hb d_Mo_solve_84 (by decide) ?_
        refine lv_istore (lv' := [(4, .int 1), (8, .int q12.1), (6, .long q7.1), (0, va_rf v0), (1, .long v1), (3, .int v3), (5, .int v5)]) hx hb d_Mo_solve_85 hl (by decide) rfl (fun ls hl => ?_)
        refine lv_lload hx hb d_Mo_solve_87 (lv_at hl 2 rfl) ?_
        refine lv_lstore_n (lv' := [(1, .long q7.1), (4, .int 1), (8, .int q12.1), (6, .long q7.1), (0, va_rf v0), (3, .int v3), (5, .int v5)]) hx hb d_Mo_solve_89 rfl hl (by decide) (by simp [mx_cat, mx_cati, mx_catl, mx_catr]) (fun ls hl => ?_)
        refine lv_iload hx hb d_Mo_solve_90 (lv_at hl 2 rfl) ?_
        refine lv_istore_n (lv' := [(3, .int q12.1), (1, .long q7.1), (4, .int 1), (8, .int q12.1), (6, .long q7.1), (0, va_rf v0), (5, .int v5)]) hx hb d_Mo_solve_92 rfl hl (by decide) rfl (fun ls hl => ?_)
        refine lv_iconst (v := 1) hx hb d_Mo_solve_93 (by decide) ?_
        refine lv_istore (lv' := [(9, .int 1), (3, .int q12.1), (1, .long q7.1), (4, .int 1), (8, .int q12.1), (6, .long q7.1), (0, va_rf v0), (5, .int v5)]) hx hb d_Mo_solve_94 hl (by decide) rfl (fun ls hl => ?_)
        refine wfl_Mo_solve_96 q CX ?_ 5000 _ _ _ _ _ _ h _ _ _ (lv_sub hl [6, 2, 1, 3, 0] rfl) hM hS
        · intro v0 v1 v3 v4 m18 h H locs ls hl hM hS
          refine mx_aload_n hx hb d_Mo_solve_125 rfl (lv_at hl 0 rfl) ?_
          obtain ⟨a22, e21, h⟩ := mx_b h
          obtain ⟨q19, e20, h⟩ := mx_b h
          have e23 := mx_c_eq e21
          refine W.eq (g2 := F0 m 126 ls [.ref a22]) (congrArg (fun z => F0 m 126 ls [va_rf z]) e23) ?_
          refine gq_go (va_runV (b := a22) (As := []) (rest := []) ⟨hx, hb, hml, hown, hts⟩ (c_Mo_next l G a22  _ _ e20) (cwV 0 hts (gq_gV wd_286 wd_287 wd_288 wd_114 wd_285) rfl rfl rfl (by decide +kernel) ⟨Nat.le_trans (Nat.le_of_ble_eq_true rfl) hRf, Nat.le_trans (Nat.le_of_ble_eq_true rfl) hRl⟩) (gq_preV hK hN hM hS hb0 e21 (C := R_Mo) (T := T_Mo) (N := 23) rfl) rfl rfl hl.1 rfl (lv_room (Nat.le_of_ble_eq_true rfl)) d_Mo_solve_126 ⟨Nat.le_trans (Nat.le_of_ble_eq_true rfl) hRc, Nat.le_trans (Nat.le_of_ble_eq_true rfl) hRs⟩) hS (fun H locs hM hS => ?_)
          refine W.eq (g2 := F0 m 129 ls [.int q19.1]) rfl ?_
          refine lv_istore (lv' := [(5, .int q19.1), (0, va_rf v0), (1, .long v1), (3, .int v3), (4, .int v4)]) hx hb d_Mo_solve_129 hl (by decide) rfl (fun ls hl => ?_)
          refine lv_goto (tgt := 38) hx hb d_Mo_solve_131 (by decide) ?_
          exact ih _ _ _ _ _ _ h _ _ _ (lv_sub hl [1, 2, 3, 4, 0] rfl) hM hS
      · rw [if_neg c17] at h
        refine lv_lload hx hb d_Mo_solve_64 (lv_at hl 1 rfl) ?_
        refine lv_lload_n hx hb d_Mo_solve_66 rfl (lv_at hl 3 rfl) ?_
        refine mx_lcmp_lt (tgt := 84) hx hb d_Mo_solve_67 d_Mo_solve_68 (by decide) (fun c18 => ?_) (fun c18 => ?_)
        · rw [if_pos c18] at h
          refine lv_iconst (v := 1) hx hb d_Mo_solve_84 (by decide) ?_
          refine lv_istore (lv' := [(4, .int 1), (8, .int q12.1), (6, .long q7.1), (0, va_rf v0), (1, .long v1), (3, .int v3), (5, .int v5)]) hx hb d_Mo_solve_85 hl (by decide) rfl (fun ls hl => ?_)
          refine lv_lload hx hb d_Mo_solve_87 (lv_at hl 2 rfl) ?_
          refine lv_lstore_n (lv' := [(1, .long q7.1), (4, .int 1), (8, .int q12.1), (6, .long q7.1), (0, va_rf v0), (3, .int v3), (5, .int v5)]) hx hb d_Mo_solve_89 rfl hl (by decide) (by simp [mx_cat, mx_cati, mx_catl, mx_catr]) (fun ls hl => ?_)
          refine lv_iload hx hb d_Mo_solve_90 (lv_at hl 2 rfl) ?_
          refine lv_istore_n (lv' := [(3, .int q12.1), (1, .long q7.1), (4, .int 1), (8, .int q12.1), (6, .long q7.1), (0, va_rf v0), (5, .int v5)]) hx hb d_Mo_solve_92 rfl hl (by decide) rfl (fun ls hl => ?_)
          refine lv_iconst (v := 1) hx hb d_Mo_solve_93 (by decide) ?_
          refine lv_istore (lv' := [(9, .int 1), (3, .int q12.1), (1, .long q7.1), (4, .int 1), (8, .int q12.1), (6, .long q7.1), (0, va_rf v0), (5, .int v5)]) hx hb d_Mo_solve_94 hl (by decide) rfl (fun ls hl => ?_)
          refine wfl_Mo_solve_96 q CX ?_ 5000 _ _ _ _ _ _ h _ _ _ (lv_sub hl [6, 2, 1, 3, 0] rfl) hM hS
          · intro v0 v1 v3 v4 m19 h H locs ls hl hM hS
            refine mx_aload_n hx hb d_Mo_solve_125 rfl (lv_at hl 0 rfl) ?_
            obtain ⟨a23, e22, h⟩ := mx_b h
            obtain ⟨q20, e21, h⟩ := mx_b h
            have e24 := mx_c_eq e22
            refine W.eq (g2 := F0 m 126 ls [.ref a23]) (congrArg (fun z => F0 m 126 ls [va_rf z]) e24) ?_
            refine gq_go (va_runV (b := a23) (As := []) (rest := []) ⟨hx, hb, hml, hown, hts⟩ (c_Mo_next l G a23  _ _ e21) (cwV 0 hts (gq_gV wd_286 wd_287 wd_288 wd_114 wd_285) rfl rfl rfl (by decide +kernel) ⟨Nat.le_trans (Nat.le_of_ble_eq_true rfl) hRf, Nat.le_trans (Nat.le_of_ble_eq_true rfl) hRl⟩) (gq_preV hK hN hM hS hb0 e22 (C := R_Mo) (T := T_Mo) (N := 23) rfl) rfl rfl hl.1 rfl (lv_room (Nat.le_of_ble_eq_true rfl)) d_Mo_solve_126 ⟨Nat.le_trans (Nat.le_of_ble_eq_true rfl) hRc, Nat.le_trans (Nat.le_of_ble_eq_true rfl) hRs⟩) hS (fun H locs hM hS => ?_)
            refine W.eq (g2 := F0 m 129 ls [.int q20.1]) rfl ?_
            refine lv_istore (lv' := [(5, .int q20.1), (0, va_rf v0), (1, .long v1), (3, .int v3), (4, .int v4)]) hx hb d_Mo_solve_129 hl (by decide) rfl (fun ls hl => ?_)
            refine lv_goto (tgt := 38) hx hb d_Mo_solve_131 (by decide) ?_
            exact ih _ _ _ _ _ _ h _ _ _ (lv_sub hl [1, 2, 3, 4, 0] rfl) hM hS
        · rw [if_neg c18] at h
          refine lv_lload hx hb d_Mo_solve_71 (lv_at hl 1 rfl) ?_
          refine lv_lload_n hx hb d_Mo_solve_73 rfl (lv_at hl 3 rfl) ?_
          refine mx_lcmp_ne (tgt := 125) hx hb d_Mo_solve_74 d_Mo_solve_75 (by decide) (fun c19 => ?_) (fun c19 => ?_)
          · rw [if_neg c19] at h
            refine mx_aload_n hx hb d_Mo_solve_125 rfl (lv_at hl 2 rfl) ?_
            obtain ⟨a23, e22, h⟩ := mx_b h
            obtain ⟨q20, e21, h⟩ := mx_b h
            have e24 := mx_c_eq e22
            refine W.eq (g2 := F0 m 126 ls [.ref a23]) (congrArg (fun z => F0 m 126 ls [va_rf z]) e24) ?_
            refine gq_go (va_runV (b := a23) (As := []) (rest := []) ⟨hx, hb, hml, hown, hts⟩ (c_Mo_next l G a23  _ _ e21) (cwV 0 hts (gq_gV wd_286 wd_287 wd_288 wd_114 wd_285) rfl rfl rfl (by decide +kernel) ⟨Nat.le_trans (Nat.le_of_ble_eq_true rfl) hRf, Nat.le_trans (Nat.le_of_ble_eq_true rfl) hRl⟩) (gq_preV hK hN hM hS hb0 e22 (C := R_Mo) (T := T_Mo) (N := 23) rfl) rfl rfl hl.1 rfl (lv_room (Nat.le_of_ble_eq_true rfl)) d_Mo_solve_126 ⟨Nat.le_trans (Nat.le_of_ble_eq_true rfl) hRc, Nat.le_trans (Nat.le_of_ble_eq_true rfl) hRs⟩) hS (fun H locs hM hS => ?_)
            refine W.eq (g2 := F0 m 129 ls [.int q20.1]) rfl ?_
            refine lv_istore (lv' := [(5, .int q20.1), (8, .int q12.1), (6, .long q7.1), (0, va_rf v0), (1, .long v1), (3, .int v3), (4, .int v4)]) hx hb d_Mo_solve_129 hl (by decide) rfl (fun ls hl => ?_)
            refine lv_goto (tgt := 38) hx hb d_Mo_solve_131 (by decide) ?_
            exact ih _ _ _ _ _ _ h _ _ _ (lv_sub hl [3, 4, 5, 6, 0] rfl) hM hS
          · rw [if_pos c19] at h
            refine lv_iload hx hb d_Mo_solve_78 (lv_at hl 0 rfl) ?_
            refine lv_iload_n hx hb d_Mo_solve_80 rfl (lv_at hl 4 rfl) ?_
            refine lv_icmp_ge (tgt := 125) hx hb d_Mo_solve_81 (by decide) (fun c20 => ?_) (fun c20 => ?_)
            · rw [if_pos c20] at h
              refine mx_aload_n hx hb d_Mo_solve_125 rfl (lv_at hl 2 rfl) ?_
              obtain ⟨a24, e23, h⟩ := mx_b h
              obtain ⟨q21, e22, h⟩ := mx_b h
              have e25 := mx_c_eq e23
              refine W.eq (g2 := F0 m 126 ls [.ref a24]) (congrArg (fun z => F0 m 126 ls [va_rf z]) e25) ?_
              refine gq_go (va_runV (b := a24) (As := []) (rest := []) ⟨hx, hb, hml, hown, hts⟩ (c_Mo_next l G a24  _ _ e22) (cwV 0 hts (gq_gV wd_286 wd_287 wd_288 wd_114 wd_285) rfl rfl rfl (by decide +kernel) ⟨Nat.le_trans (Nat.le_of_ble_eq_true rfl) hRf, Nat.le_trans (Nat.le_of_ble_eq_true rfl) hRl⟩) (gq_preV hK hN hM hS hb0 e23 (C := R_Mo) (T := T_Mo) (N := 23) rfl) rfl rfl hl.1 rfl (lv_room (Nat.le_of_ble_eq_true rfl)) d_Mo_solve_126 ⟨Nat.le_trans (Nat.le_of_ble_eq_true rfl) hRc, Nat.le_trans (Nat.le_of_ble_eq_true rfl) hRs⟩) hS (fun H locs hM hS => ?_)
              refine W.eq (g2 := F0 m 129 ls [.int q21.1]) rfl ?_
              refine lv_istore (lv' := [(5, .int q21.1), (8, .int q12.1), (6, .long q7.1), (0, va_rf v0), (1, .long v1), (3, .int v3), (4, .int v4)]) hx hb d_Mo_solve_129 hl (by decide) rfl (fun ls hl => ?_)
              refine lv_goto (tgt := 38) hx hb d_Mo_solve_131 (by decide) ?_
              exact ih _ _ _ _ _ _ h _ _ _ (lv_sub hl [3, 4, 5, 6, 0] rfl) hM hS
            · rw [if_neg c20] at h
              refine lv_iconst (v := 1) hx hb d_Mo_solve_84 (by decide) ?_
              refine lv_istore (lv' := [(4, .int 1), (8, .int q12.1), (6, .long q7.1), (0, va_rf v0), (1, .long v1), (3, .int v3), (5, .int v5)]) hx hb d_Mo_solve_85 hl (by decide) rfl (fun ls hl => ?_)
              refine lv_lload hx hb d_Mo_solve_87 (lv_at hl 2 rfl) ?_
              refine lv_lstore_n (lv' := [(1, .long q7.1), (4, .int 1), (8, .int q12.1), (6, .long q7.1), (0, va_rf v0), (3, .int v3), (5, .int v5)]) hx hb d_Mo_solve_89 rfl hl (by decide) (by simp [mx_cat, mx_cati, mx_catl, mx_catr]) (fun ls hl => ?_)
              refine lv_iload hx hb d_Mo_solve_90 (lv_at hl 2 rfl) ?_
              refine lv_istore_n (lv' := [(3, .int q12.1), (1, .long q7.1), (4, .int 1), (8, .int q12.1), (6, .long q7.1), (0, va_rf v0), (5, .int v5)]) hx hb d_Mo_solve_92 rfl hl (by decide) rfl (fun ls hl => ?_)
              refine lv_iconst (v := 1) hx hb d_Mo_solve_93 (by decide) ?_
              refine lv_istore (lv' := [(9, .int 1), (3, .int q12.1), (1, .long q7.1), (4, .int 1), (8, .int q12.1), (6, .long q7.1), (0, va_rf v0), (5, .int v5)]) hx hb d_Mo_solve_94 hl (by decide) rfl (fun ls hl => ?_)
              refine wfl_Mo_solve_96 q CX ?_ 5000 _ _ _ _ _ _ h _ _ _ (lv_sub hl [6, 2, 1, 3, 0] rfl) hM hS
              · intro v0 v1 v3 v4 m21 h H locs ls hl hM hS
                refine mx_aload_n hx hb d_Mo_solve_125 rfl (lv_at hl 0 rfl) ?_
                obtain ⟨a25, e24, h⟩ := mx_b h
                obtain ⟨q22, e23, h⟩ := mx_b h
                have e26 := mx_c_eq e24
                refine W.eq (g2 := F0 m 126 ls [.ref a25]) (congrArg (fun z => F0 m 126 ls [va_rf z]) e26) ?_
                refine gq_go (va_runV (b := a25) (As := []) (rest := []) ⟨hx, hb, hml, hown, hts⟩ (c_Mo_next l G a25  _ _ e23) (cwV 0 hts (gq_gV wd_286 wd_287 wd_288 wd_114 wd_285) rfl rfl rfl (by decide +kernel) ⟨Nat.le_trans (Nat.le_of_ble_eq_true rfl) hRf, Nat.le_trans (Nat.le_of_ble_eq_true rfl) hRl⟩) (gq_preV hK hN hM hS hb0 e24 (C := R_Mo) (T := T_Mo) (N := 23) rfl) rfl rfl hl.1 rfl (lv_room (Nat.le_of_ble_eq_true rfl)) d_Mo_solve_126 ⟨Nat.le_trans (Nat.le_of_ble_eq_true rfl) hRc, Nat.le_trans (Nat.le_of_ble_eq_true rfl) hRs⟩) hS (fun H locs hM hS => ?_)
                refine W.eq (g2 := F0 m 129 ls [.int q22.1]) rfl ?_
                refine lv_istore (lv' := [(5, .int q22.1), (0, va_rf v0), (1, .long v1), (3, .int v3), (4, .int v4)]) hx hb d_Mo_solve_129 hl (by decide) rfl (fun ls hl => ?_)
                refine lv_goto (tgt := 38) hx hb d_Mo_solve_131 (by decide) ?_
                exact ih _ _ _ _ _ _ h _ _ _ (lv_sub hl [1, 2, 3, 4, 0] rfl) hM hS
set_option maxHeartbeats 4000000 in
set_option maxRecDepth 100000 in
theorem wfl_Mo_solve_137 {p : Program} {l : Launch} {e : Env} {R : Room} {s : State} {m : MethodId} {args : Array Value} {below : List Frame} {meth : Method} {c : Code} {G : mx_G} (q : Int64 × mx_Mem) (CX : gq_C p R s m args meth c G b_Mo_solve 10 (some .long) R_Mo 3 0 0 76)  : ∀ (n : Nat) (v0 : Option Nat) (v1 : Int64) (v6 : Int32) (mem : mx_Mem), fl_Mo_solve_137  n v0 v1 v6 mem = some q → ∀ (H : Heap) (locs : List Loc) (ls : Array Slot), lv_has ls 10 [(0, va_rf v0), (1, .long v1), (6, .int v6)] → mx_M vwCl G mem H → va_S (mx_A G) s.heap H locs → W p l e R s m args below meth c H locs 0 0 (MQ below (gq_Q G (some (.long q.1)) q.2) args s 0 0 (mx_A G)) (F0 m 137 ls []) := by
  obtain ⟨hx, hb, hml, hr, hown, hts, hlocks, hK, hN, hb0, hRf, hRc, hRs, hRl⟩ := id CX
  intro n
  induction n with
  | zero => intro v0 v1 v6 mem h; rw [fl_Mo_solve_137] at h; cases h
  | succ n ih =>
    intro v0 v1 v6 mem h H locs ls hl hM hS
    rw [fl_Mo_solve_137] at h
    refine lv_iload hx hb d_Mo_solve_137 (lv_at hl 2 rfl) ?_
    refine mx_aload_n hx hb d_Mo_solve_139 rfl (lv_at hl 0 rfl) ?_
    obtain ⟨x1, e2, h⟩ := mx_b h
    refine mx_geti hx hb hts i_Mo hown hK hM e2 (ci := 4) (C := R_Mo) (T := T_Mo) (N := 23) rfl 9 (by decide) (hts _ wd_142) d_Mo_solve_140 ?_
    refine lv_icmp_gt (tgt := 166) hx hb d_Mo_solve_143 (by decide) (fun c3 => ?_) (fun c3 => ?_)
    · rw [if_pos c3] at h
      refine lv_lload_n hx hb d_Mo_solve_166 rfl (lv_at hl 1 rfl) ?_
      cases h
      exact W.lret hx hb hr (fun t ht hW => ⟨⟨rfl, by rw [ht]; exact hM⟩, hS.F ht⟩) hS.2.2 d_Mo_solve_167
    · rw [if_neg c3] at h
      refine mx_aload_n hx hb d_Mo_solve_146 rfl (lv_at hl 0 rfl) ?_
      obtain ⟨x4, e5, h⟩ := mx_b h
      refine mx_getr hx hb hts i_Mo hown hK hM e5 (ci := 4) (C := R_Mo) (T := T_Mo) (N := 23) rfl 15 (by decide) (hts _ wd_25) d_Mo_solve_147 ?_
      refine lv_iload hx hb d_Mo_solve_150 (lv_at hl 2 rfl) ?_
      refine mx_aload_n hx hb d_Mo_solve_152 rfl (lv_at hl 0 rfl) ?_
      obtain ⟨x6, e7, h⟩ := mx_b h
      refine mx_getr hx hb hts i_Mo hown hK hM e7 (ci := 4) (C := R_Mo) (T := T_Mo) (N := 23) rfl 21 (by decide) (hts _ wd_32) d_Mo_solve_153 ?_
      refine lv_iload hx hb d_Mo_solve_156 (lv_at hl 2 rfl) ?_
      obtain ⟨x8, e9, h⟩ := mx_b h
      refine mx_iald hx hb hK hM e9 rfl d_Mo_solve_158 ?_
      obtain ⟨m11, e10, h⟩ := mx_b h
      refine mx_iast hx hb hK hM hS e10 rfl d_Mo_solve_159 (fun H locs hM hS => ?_)
      refine lv_iinc (v := (v6 + 1)) (lv' := [(6, .int ((v6 + 1))), (0, va_rf v0), (1, .long v1)]) hx hb d_Mo_solve_160 hl (k := 2) rfl rfl (by decide) rfl (fun ls hl => ?_)
      refine lv_goto (tgt := 137) hx hb d_Mo_solve_163 (by decide) ?_
      exact ih _ _ _ _ h _ _ _ (lv_sub hl [1, 2, 0] rfl) hM hS
set_option maxHeartbeats 4000000 in
set_option maxRecDepth 100000 in
theorem c_Mo_solve (l : Launch) (G : mx_G) (a0 : Nat) (mem : mx_Mem) (q : Int64 × mx_Mem) (h : f_Mo_solve a0 mem = some q) : Met l y_Mo_solve (gq_w y_Mo_solve b_Mo_solve 10 (some .long)) { frames := 3, cells := 0, slots := 0, locals := 76 } (gq_P G [.ref a0] mem) (gq_Q G (some (.long q.1)) q.2) 0 0 (mx_A G) := by
  refine Met.ofW (cc := b_Mo_solve) (maxL := 10) (ret := (some .long)) (by decide) rfl ?_
  intro p e s m args below meth c s₁ B hml hv
  obtain ⟨rfl, hb0, hM, hK, hN⟩ := hv
  have CX : gq_C p (headSpec (gq_w y_Mo_solve b_Mo_solve 10 (some .long)) { frames := 3, cells := 0, slots := 0, locals := 76 }).room s m _ meth c G b_Mo_solve 10 (some .long) R_Mo 3 0 0 76 := ⟨B.exec, B.bytes, hml, B.returns, findClass_of_methodNamed B.named, fun w hw => atoms_spec (ws := gq_w y_Mo_solve b_Mo_solve 10 (some .long)) B.pre w (List.mem_cons_of_mem _ hw), B.notSynchronized, hK, hN, hb0, Nat.le_refl _, Nat.le_refl _, Nat.le_refl _, Nat.le_refl _⟩
  obtain ⟨hx, hb, hml, hr, hown, hts, hlocks, hK, hN, hb0, hRf, hRc, hRs, hRl⟩ := id CX
  have hS : va_S (mx_A G) s.heap s.heap [] := va_S.rf
  have hl := lv_entry [.ref a0] (n := 10) (Nat.le_of_ble_eq_true rfl)
  rw [lg_entry_eq]
  generalize (lg_sl [.ref a0] ++ List.replicate (10 - (lg_sl [.ref a0]).length) Slot.unset).toArray = ls at hl ⊢
  have hl : lv_has ls 10 [(0, va_rf (some a0))] := hl
  unfold f_Mo_solve at h
  refine mx_aload_n hx hb d_Mo_solve_0 rfl (lv_at hl 0 rfl) ?_
  refine lv_iconst (v := 0) hx hb d_Mo_solve_1 (by decide) ?_
  obtain ⟨m1, e2, h⟩ := mx_b h
  refine mx_put hx hb hts i_Mo t_Mo t_Mo_ok n_Mo hown hK hM hS e2 (ci := 4) (C := R_Mo) (T := T_Mo) (N := 23) rfl 0 (by decide) (hts _ wd_109) rfl (ty := .int) (by decide +kernel) rfl rfl d_Mo_solve_2 (fun H locs hM hS => ?_)
  refine lv_iconst (v := 1) hx hb d_Mo_solve_5 (by decide) ?_
  refine lv_istore_n (lv' := [(1, .int 1), (0, va_rf (some a0))]) hx hb d_Mo_solve_6 rfl hl (by decide) (by simp [mx_cat, mx_cati, mx_catl, mx_catr]) (fun ls hl => ?_)
  refine wfl_Mo_solve_7 q CX ?_ 5000 _ _ _ h _ _ _ (lv_sub hl [1, 0] rfl) hM hS
  · intro v0 m3 h H locs ls hl hM hS
    refine lv_lconst (v := 0) hx hb d_Mo_solve_28 (by decide) ?_
    refine lv_lstore_n (lv' := [(1, .long 0), (0, va_rf v0)]) hx hb d_Mo_solve_29 rfl hl (by decide) (by simp [mx_cat, mx_cati, mx_catl, mx_catr]) (fun ls hl => ?_)
    refine lv_iconst (v := 0) hx hb d_Mo_solve_30 (by decide) ?_
    refine lv_istore_n (lv' := [(3, .int 0), (1, .long 0), (0, va_rf v0)]) hx hb d_Mo_solve_31 rfl hl (by decide) rfl (fun ls hl => ?_)
    refine lv_iconst (v := 0) hx hb d_Mo_solve_32 (by decide) ?_
    refine lv_istore (lv' := [(4, .int 0), (3, .int 0), (1, .long 0), (0, va_rf v0)]) hx hb d_Mo_solve_33 hl (by decide) rfl (fun ls hl => ?_)
    refine lv_iconst (v := 1) hx hb d_Mo_solve_35 (by decide) ?_
    refine lv_istore (lv' := [(5, .int 1), (4, .int 0), (3, .int 0), (1, .long 0), (0, va_rf v0)]) hx hb d_Mo_solve_36 hl (by decide) rfl (fun ls hl => ?_)
    refine wfl_Mo_solve_38 q CX ?_ 5000 _ _ _ _ _ _ h _ _ _ (lv_sub hl [4, 3, 2, 1, 0] rfl) hM hS
    · intro v0 v1 m4 h H locs ls hl hM hS
      refine lv_iconst (v := 1) hx hb d_Mo_solve_134 (by decide) ?_
      refine lv_istore (lv' := [(6, .int 1), (0, va_rf v0), (1, .long v1)]) hx hb d_Mo_solve_135 hl (by decide) rfl (fun ls hl => ?_)
      refine wfl_Mo_solve_137 q CX  5000 _ _ _ _ h _ _ _ (lv_sub hl [1, 2, 0] rfl) hM hS
set_option maxHeartbeats 4000000 in
set_option maxRecDepth 100000 in
theorem c_LR_chosen (l : Launch) (G : mx_G) (a0 : Nat) (v1 : Int32) (mem : mx_Mem) (q : Int32 × mx_Mem) (h : f_LR_chosen a0 v1 mem = some q) : Met l y_LR_chosen (gq_w y_LR_chosen b_LR_chosen 3 (some .int)) { frames := 1, cells := 0, slots := 0, locals := 21 } (gq_P G [.ref a0, .int v1] mem) (gq_Q G (some (.int q.1)) q.2) 0 0 (mx_A G) := by
  refine Met.ofW (cc := b_LR_chosen) (maxL := 3) (ret := (some .int)) (by decide) rfl ?_
  intro p e s m args below meth c s₁ B hml hv
  obtain ⟨rfl, hb0, hM, hK, hN⟩ := hv
  have CX : gq_C p (headSpec (gq_w y_LR_chosen b_LR_chosen 3 (some .int)) { frames := 1, cells := 0, slots := 0, locals := 21 }).room s m _ meth c G b_LR_chosen 3 (some .int) R_LR 1 0 0 21 := ⟨B.exec, B.bytes, hml, B.returns, findClass_of_methodNamed B.named, fun w hw => atoms_spec (ws := gq_w y_LR_chosen b_LR_chosen 3 (some .int)) B.pre w (List.mem_cons_of_mem _ hw), B.notSynchronized, hK, hN, hb0, Nat.le_refl _, Nat.le_refl _, Nat.le_refl _, Nat.le_refl _⟩
  obtain ⟨hx, hb, hml, hr, hown, hts, hlocks, hK, hN, hb0, hRf, hRc, hRs, hRl⟩ := id CX
  have hS : va_S (mx_A G) s.heap s.heap [] := va_S.rf
  have hl := lv_entry [.ref a0, .int v1] (n := 3) (Nat.le_of_ble_eq_true rfl)
  rw [lg_entry_eq]
  generalize (lg_sl [.ref a0, .int v1] ++ List.replicate (3 - (lg_sl [.ref a0, .int v1]).length) Slot.unset).toArray = ls at hl ⊢
  have hl : lv_has ls 3 [(0, va_rf (some a0)), (1, .int v1)] := hl
  unfold f_LR_chosen at h
  refine mx_aload_n hx hb d_LR_chosen_0 rfl (lv_at hl 0 rfl) ?_
  refine lv_iload_n hx hb d_LR_chosen_1 rfl (lv_at hl 1 rfl) ?_
  obtain ⟨a4, e3, h⟩ := mx_b h
  obtain ⟨q1, e2, h⟩ := mx_b h
  have e5 := mx_c_eq e3
  refine W.eq (g2 := F0 m 2 ls [.int v1, .ref a4]) (congrArg (fun z => F0 m 2 ls [.int v1, va_rf z]) e5) ?_
  refine gq_go (va_runV (b := a4) (As := [.int v1]) (rest := []) ⟨hx, hb, hml, hown, hts⟩ (c_LR_findLoad l G a4 v1 _ _ e2) (cwV 1 hts (gq_gV wd_152 wd_153 wd_154 wd_38 wd_151) rfl rfl rfl (by decide +kernel) ⟨Nat.le_trans (Nat.le_of_ble_eq_true rfl) hRf, Nat.le_trans (Nat.le_of_ble_eq_true rfl) hRl⟩) (gq_preV hK hN hM hS hb0 e3 (C := R_LR) (T := T_LR) (N := 5) rfl) rfl rfl hl.1 rfl (lv_room (Nat.le_of_ble_eq_true rfl)) d_LR_chosen_2 ⟨Nat.le_trans (Nat.le_of_ble_eq_true rfl) hRc, Nat.le_trans (Nat.le_of_ble_eq_true rfl) hRs⟩) hS (fun H locs hM hS => ?_)
  refine W.eq (g2 := F0 m 5 ls [va_rf q1.1]) rfl ?_
  refine mx_astore_n (lv' := [(2, va_rf q1.1), (0, va_rf (some a0)), (1, .int v1)]) hx hb d_LR_chosen_5 rfl hl (by decide) rfl (fun ls hl => ?_)
  refine mx_aload_n hx hb d_LR_chosen_6 rfl (lv_at hl 0 rfl) ?_
  refine mx_ifnonnull (tgt := 15) hx hb d_LR_chosen_7 (by decide) (fun c6 => ?_) (fun c6 => ?_)
  · rw [if_neg c6] at h
    refine mx_aload_n hx hb d_LR_chosen_15 rfl (lv_at hl 0 rfl) ?_
    obtain ⟨x7, e8, h⟩ := mx_b h
    refine mx_getiN hx hb hts i_Lo hown hK hM e8 (ci := 3) (C := R_Lo) (T := T_Lo) (N := 12) rfl 6 (by decide) (va_Nw.use rfl (hN _ nw_16)) d_LR_chosen_16 ?_
    cases h
    exact W.iret hx hb hr (fun t ht hW => ⟨⟨rfl, by rw [ht]; exact hM⟩, hS.F ht⟩) hS.2.2 d_LR_chosen_19
  · rw [if_pos c6] at h
    refine lv_bipush (v := (-11)) hx hb d_LR_chosen_10 (by decide) ?_
    refine lv_goto (tgt := 19) hx hb d_LR_chosen_12 (by decide) ?_
    cases h
    exact W.iret hx hb hr (fun t ht hW => ⟨⟨rfl, by rw [ht]; exact hM⟩, hS.F ht⟩) hS.2.2 d_LR_chosen_19
set_option maxHeartbeats 4000000 in
set_option maxRecDepth 100000 in
theorem c_Mo_chosen (l : Launch) (G : mx_G) (a0 : Nat) (v1 : Int32) (mem : mx_Mem) (q : Int32 × mx_Mem) (h : f_Mo_chosen a0 v1 mem = some q) : Met l y_Mo_chosen (gq_w y_Mo_chosen b_Mo_chosen 2 (some .int)) { frames := 1, cells := 0, slots := 0, locals := 21 } (gq_P G [.ref a0, .int v1] mem) (gq_Q G (some (.int q.1)) q.2) 0 0 (mx_A G) := by
  refine Met.ofW (cc := b_Mo_chosen) (maxL := 2) (ret := (some .int)) (by decide) rfl ?_
  intro p e s m args below meth c s₁ B hml hv
  obtain ⟨rfl, hb0, hM, hK, hN⟩ := hv
  have CX : gq_C p (headSpec (gq_w y_Mo_chosen b_Mo_chosen 2 (some .int)) { frames := 1, cells := 0, slots := 0, locals := 21 }).room s m _ meth c G b_Mo_chosen 2 (some .int) R_Mo 1 0 0 21 := ⟨B.exec, B.bytes, hml, B.returns, findClass_of_methodNamed B.named, fun w hw => atoms_spec (ws := gq_w y_Mo_chosen b_Mo_chosen 2 (some .int)) B.pre w (List.mem_cons_of_mem _ hw), B.notSynchronized, hK, hN, hb0, Nat.le_refl _, Nat.le_refl _, Nat.le_refl _, Nat.le_refl _⟩
  obtain ⟨hx, hb, hml, hr, hown, hts, hlocks, hK, hN, hb0, hRf, hRc, hRs, hRl⟩ := id CX
  have hS : va_S (mx_A G) s.heap s.heap [] := va_S.rf
  have hl := lv_entry [.ref a0, .int v1] (n := 2) (Nat.le_of_ble_eq_true rfl)
  rw [lg_entry_eq]
  generalize (lg_sl [.ref a0, .int v1] ++ List.replicate (2 - (lg_sl [.ref a0, .int v1]).length) Slot.unset).toArray = ls at hl ⊢
  have hl : lv_has ls 2 [(0, va_rf (some a0)), (1, .int v1)] := hl
  unfold f_Mo_chosen at h
  refine mx_aload_n hx hb d_Mo_chosen_0 rfl (lv_at hl 0 rfl) ?_
  refine lv_iconst (v := 0) hx hb d_Mo_chosen_1 (by decide) ?_
  obtain ⟨m1, e2, h⟩ := mx_b h
  refine mx_put hx hb hts i_Mo t_Mo t_Mo_ok n_Mo hown hK hM hS e2 (ci := 4) (C := R_Mo) (T := T_Mo) (N := 23) rfl 0 (by decide) (hts _ wd_109) rfl (ty := .int) (by decide +kernel) rfl rfl d_Mo_chosen_2 (fun H locs hM hS => ?_)
  refine mx_aload_n hx hb d_Mo_chosen_5 rfl (lv_at hl 0 rfl) ?_
  refine lv_iload_n hx hb d_Mo_chosen_6 rfl (lv_at hl 1 rfl) ?_
  obtain ⟨a6, e5, h⟩ := mx_b h
  obtain ⟨q3, e4, h⟩ := mx_b h
  have e7 := mx_c_eq e5
  refine W.eq (g2 := F0 m 7 ls [.int v1, .ref a6]) (congrArg (fun z => F0 m 7 ls [.int v1, va_rf z]) e7) ?_
  refine gq_go (va_runV (b := a6) (As := [.int v1]) (rest := []) ⟨hx, hb, hml, hown, hts⟩ (c_Mo_isLoad l G a6 v1 _ _ e4) (cwV 1 hts (gq_gV wd_173 wd_174 wd_175 wd_114 wd_172) rfl rfl rfl (by decide +kernel) ⟨Nat.le_trans (Nat.le_of_ble_eq_true rfl) hRf, Nat.le_trans (Nat.le_of_ble_eq_true rfl) hRl⟩) (gq_preV hK hN hM hS hb0 e5 (C := R_Mo) (T := T_Mo) (N := 23) rfl) rfl rfl hl.1 rfl (lv_room (Nat.le_of_ble_eq_true rfl)) d_Mo_chosen_7 ⟨Nat.le_trans (Nat.le_of_ble_eq_true rfl) hRc, Nat.le_trans (Nat.le_of_ble_eq_true rfl) hRs⟩) hS (fun H locs hM hS => ?_)
  refine W.eq (g2 := F0 m 10 ls [.int q3.1]) rfl ?_
  refine lv_if_ne (tgt := 18) hx hb d_Mo_chosen_10 (by decide) (fun c8 => ?_) (fun c8 => ?_)
  · rw [if_neg c8] at h
    refine mx_aload_n hx hb d_Mo_chosen_18 rfl (lv_at hl 0 rfl) ?_
    obtain ⟨x9, e10, h⟩ := mx_b h
    refine mx_getr hx hb hts i_Mo hown hK hM e10 (ci := 4) (C := R_Mo) (T := T_Mo) (N := 23) rfl 14 (by decide) (hts _ wd_24) d_Mo_chosen_19 ?_
    refine lv_iload_n hx hb d_Mo_chosen_22 rfl (lv_at hl 1 rfl) ?_
    obtain ⟨x11, e12, h⟩ := mx_b h
    refine mx_iald hx hb hK hM e12 rfl d_Mo_chosen_23 ?_
    refine lv_if_ne (tgt := 31) hx hb d_Mo_chosen_24 (by decide) (fun c13 => ?_) (fun c13 => ?_)
    · rw [if_neg c13] at h
      refine mx_aload_n hx hb d_Mo_chosen_31 rfl (lv_at hl 0 rfl) ?_
      obtain ⟨x14, e15, h⟩ := mx_b h
      refine mx_getr hx hb hts i_Mo hown hK hM e15 (ci := 4) (C := R_Mo) (T := T_Mo) (N := 23) rfl 15 (by decide) (hts _ wd_25) d_Mo_chosen_32 ?_
      refine lv_iload_n hx hb d_Mo_chosen_35 rfl (lv_at hl 1 rfl) ?_
      obtain ⟨x16, e17, h⟩ := mx_b h
      refine mx_iald hx hb hK hM e17 rfl d_Mo_chosen_36 ?_
      cases h
      exact W.iret hx hb hr (fun t ht hW => ⟨⟨rfl, by rw [ht]; exact hM⟩, hS.F ht⟩) hS.2.2 d_Mo_chosen_37
    · rw [if_pos c13] at h
      refine lv_iconst (v := (-1)) hx hb d_Mo_chosen_27 (by decide) ?_
      refine lv_goto (tgt := 37) hx hb d_Mo_chosen_28 (by decide) ?_
      cases h
      exact W.iret hx hb hr (fun t ht hW => ⟨⟨rfl, by rw [ht]; exact hM⟩, hS.F ht⟩) hS.2.2 d_Mo_chosen_37
  · rw [if_pos c8] at h
    refine lv_bipush (v := (-11)) hx hb d_Mo_chosen_13 (by decide) ?_
    refine lv_goto (tgt := 37) hx hb d_Mo_chosen_15 (by decide) ?_
    cases h
    exact W.iret hx hb hr (fun t ht hW => ⟨⟨rfl, by rw [ht]; exact hM⟩, hS.F ht⟩) hS.2.2 d_Mo_chosen_37
set_option maxHeartbeats 4000000 in
set_option maxRecDepth 100000 in
theorem c_LR_arrival (l : Launch) (G : mx_G) (a0 : Nat) (v1 : Int32) (mem : mx_Mem) (q : Int64 × mx_Mem) (h : f_LR_arrival a0 v1 mem = some q) : Met l y_LR_arrival (gq_w y_LR_arrival b_LR_arrival 3 (some .long)) { frames := 1, cells := 0, slots := 0, locals := 21 } (gq_P G [.ref a0, .int v1] mem) (gq_Q G (some (.long q.1)) q.2) 0 0 (mx_A G) := by
  refine Met.ofW (cc := b_LR_arrival) (maxL := 3) (ret := (some .long)) (by decide) rfl ?_
  intro p e s m args below meth c s₁ B hml hv
  obtain ⟨rfl, hb0, hM, hK, hN⟩ := hv
  have CX : gq_C p (headSpec (gq_w y_LR_arrival b_LR_arrival 3 (some .long)) { frames := 1, cells := 0, slots := 0, locals := 21 }).room s m _ meth c G b_LR_arrival 3 (some .long) R_LR 1 0 0 21 := ⟨B.exec, B.bytes, hml, B.returns, findClass_of_methodNamed B.named, fun w hw => atoms_spec (ws := gq_w y_LR_arrival b_LR_arrival 3 (some .long)) B.pre w (List.mem_cons_of_mem _ hw), B.notSynchronized, hK, hN, hb0, Nat.le_refl _, Nat.le_refl _, Nat.le_refl _, Nat.le_refl _⟩
  obtain ⟨hx, hb, hml, hr, hown, hts, hlocks, hK, hN, hb0, hRf, hRc, hRs, hRl⟩ := id CX
  have hS : va_S (mx_A G) s.heap s.heap [] := va_S.rf
  have hl := lv_entry [.ref a0, .int v1] (n := 3) (Nat.le_of_ble_eq_true rfl)
  rw [lg_entry_eq]
  generalize (lg_sl [.ref a0, .int v1] ++ List.replicate (3 - (lg_sl [.ref a0, .int v1]).length) Slot.unset).toArray = ls at hl ⊢
  have hl : lv_has ls 3 [(0, va_rf (some a0)), (1, .int v1)] := hl
  unfold f_LR_arrival at h
  refine mx_aload_n hx hb d_LR_arrival_0 rfl (lv_at hl 0 rfl) ?_
  refine lv_iload_n hx hb d_LR_arrival_1 rfl (lv_at hl 1 rfl) ?_
  obtain ⟨a4, e3, h⟩ := mx_b h
  obtain ⟨q1, e2, h⟩ := mx_b h
  have e5 := mx_c_eq e3
  refine W.eq (g2 := F0 m 2 ls [.int v1, .ref a4]) (congrArg (fun z => F0 m 2 ls [.int v1, va_rf z]) e5) ?_
  refine gq_go (va_runV (b := a4) (As := [.int v1]) (rest := []) ⟨hx, hb, hml, hown, hts⟩ (c_LR_findLoad l G a4 v1 _ _ e2) (cwV 1 hts (gq_gV wd_152 wd_153 wd_154 wd_38 wd_151) rfl rfl rfl (by decide +kernel) ⟨Nat.le_trans (Nat.le_of_ble_eq_true rfl) hRf, Nat.le_trans (Nat.le_of_ble_eq_true rfl) hRl⟩) (gq_preV hK hN hM hS hb0 e3 (C := R_LR) (T := T_LR) (N := 5) rfl) rfl rfl hl.1 rfl (lv_room (Nat.le_of_ble_eq_true rfl)) d_LR_arrival_2 ⟨Nat.le_trans (Nat.le_of_ble_eq_true rfl) hRc, Nat.le_trans (Nat.le_of_ble_eq_true rfl) hRs⟩) hS (fun H locs hM hS => ?_)
  refine W.eq (g2 := F0 m 5 ls [va_rf q1.1]) rfl ?_
  refine mx_astore_n (lv' := [(2, va_rf q1.1), (0, va_rf (some a0)), (1, .int v1)]) hx hb d_LR_arrival_5 rfl hl (by decide) rfl (fun ls hl => ?_)
  refine mx_aload_n hx hb d_LR_arrival_6 rfl (lv_at hl 0 rfl) ?_
  refine mx_ifnonnull (tgt := 16) hx hb d_LR_arrival_7 (by decide) (fun c6 => ?_) (fun c6 => ?_)
  · rw [if_neg c6] at h
    refine mx_aload_n hx hb d_LR_arrival_16 rfl (lv_at hl 0 rfl) ?_
    obtain ⟨x7, e8, h⟩ := mx_b h
    refine mx_getlN hx hb hts i_Lo hown hK hM e8 (ci := 3) (C := R_Lo) (T := T_Lo) (N := 12) rfl 9 (by decide) (va_Nw.use rfl (hN _ nw_17)) d_LR_arrival_17 ?_
    cases h
    exact W.lret hx hb hr (fun t ht hW => ⟨⟨rfl, by rw [ht]; exact hM⟩, hS.F ht⟩) hS.2.2 d_LR_arrival_20
  · rw [if_pos c6] at h
    refine lv_ldc2 (v := (-11)) hx hb hown (hts _ wd_289) d_LR_arrival_10 ?_
    refine lv_goto (tgt := 20) hx hb d_LR_arrival_13 (by decide) ?_
    cases h
    exact W.lret hx hb hr (fun t ht hW => ⟨⟨rfl, by rw [ht]; exact hM⟩, hS.F ht⟩) hS.2.2 d_LR_arrival_20
set_option maxHeartbeats 4000000 in
set_option maxRecDepth 100000 in
theorem c_Mo_arrival (l : Launch) (G : mx_G) (a0 : Nat) (v1 : Int32) (mem : mx_Mem) (q : Int64 × mx_Mem) (h : f_Mo_arrival a0 v1 mem = some q) : Met l y_Mo_arrival (gq_w y_Mo_arrival b_Mo_arrival 2 (some .long)) { frames := 3, cells := 0, slots := 0, locals := 76 } (gq_P G [.ref a0, .int v1] mem) (gq_Q G (some (.long q.1)) q.2) 0 0 (mx_A G) := by
  refine Met.ofW (cc := b_Mo_arrival) (maxL := 2) (ret := (some .long)) (by decide) rfl ?_
  intro p e s m args below meth c s₁ B hml hv
  obtain ⟨rfl, hb0, hM, hK, hN⟩ := hv
  have CX : gq_C p (headSpec (gq_w y_Mo_arrival b_Mo_arrival 2 (some .long)) { frames := 3, cells := 0, slots := 0, locals := 76 }).room s m _ meth c G b_Mo_arrival 2 (some .long) R_Mo 3 0 0 76 := ⟨B.exec, B.bytes, hml, B.returns, findClass_of_methodNamed B.named, fun w hw => atoms_spec (ws := gq_w y_Mo_arrival b_Mo_arrival 2 (some .long)) B.pre w (List.mem_cons_of_mem _ hw), B.notSynchronized, hK, hN, hb0, Nat.le_refl _, Nat.le_refl _, Nat.le_refl _, Nat.le_refl _⟩
  obtain ⟨hx, hb, hml, hr, hown, hts, hlocks, hK, hN, hb0, hRf, hRc, hRs, hRl⟩ := id CX
  have hS : va_S (mx_A G) s.heap s.heap [] := va_S.rf
  have hl := lv_entry [.ref a0, .int v1] (n := 2) (Nat.le_of_ble_eq_true rfl)
  rw [lg_entry_eq]
  generalize (lg_sl [.ref a0, .int v1] ++ List.replicate (2 - (lg_sl [.ref a0, .int v1]).length) Slot.unset).toArray = ls at hl ⊢
  have hl : lv_has ls 2 [(0, va_rf (some a0)), (1, .int v1)] := hl
  unfold f_Mo_arrival at h
  refine mx_aload_n hx hb d_Mo_arrival_0 rfl (lv_at hl 0 rfl) ?_
  refine lv_iconst (v := 0) hx hb d_Mo_arrival_1 (by decide) ?_
  obtain ⟨m1, e2, h⟩ := mx_b h
  refine mx_put hx hb hts i_Mo t_Mo t_Mo_ok n_Mo hown hK hM hS e2 (ci := 4) (C := R_Mo) (T := T_Mo) (N := 23) rfl 0 (by decide) (hts _ wd_109) rfl (ty := .int) (by decide +kernel) rfl rfl d_Mo_arrival_2 (fun H locs hM hS => ?_)
  refine mx_aload_n hx hb d_Mo_arrival_5 rfl (lv_at hl 0 rfl) ?_
  refine lv_iload_n hx hb d_Mo_arrival_6 rfl (lv_at hl 1 rfl) ?_
  obtain ⟨a6, e5, h⟩ := mx_b h
  obtain ⟨q3, e4, h⟩ := mx_b h
  have e7 := mx_c_eq e5
  refine W.eq (g2 := F0 m 7 ls [.int v1, .ref a6]) (congrArg (fun z => F0 m 7 ls [.int v1, va_rf z]) e7) ?_
  refine gq_go (va_runV (b := a6) (As := [.int v1]) (rest := []) ⟨hx, hb, hml, hown, hts⟩ (c_Mo_isLoad l G a6 v1 _ _ e4) (cwV 1 hts (gq_gV wd_173 wd_174 wd_175 wd_114 wd_172) rfl rfl rfl (by decide +kernel) ⟨Nat.le_trans (Nat.le_of_ble_eq_true rfl) hRf, Nat.le_trans (Nat.le_of_ble_eq_true rfl) hRl⟩) (gq_preV hK hN hM hS hb0 e5 (C := R_Mo) (T := T_Mo) (N := 23) rfl) rfl rfl hl.1 rfl (lv_room (Nat.le_of_ble_eq_true rfl)) d_Mo_arrival_7 ⟨Nat.le_trans (Nat.le_of_ble_eq_true rfl) hRc, Nat.le_trans (Nat.le_of_ble_eq_true rfl) hRs⟩) hS (fun H locs hM hS => ?_)
  refine W.eq (g2 := F0 m 10 ls [.int q3.1]) rfl ?_
  refine lv_if_ne (tgt := 17) hx hb d_Mo_arrival_10 (by decide) (fun c8 => ?_) (fun c8 => ?_)
  · rw [if_neg c8] at h
    refine mx_aload_n hx hb d_Mo_arrival_17 rfl (lv_at hl 0 rfl) ?_
    obtain ⟨a12, e11, h⟩ := mx_b h
    obtain ⟨q9, e10, h⟩ := mx_b h
    have e13 := mx_c_eq e11
    refine W.eq (g2 := F0 m 18 ls [.ref a12]) (congrArg (fun z => F0 m 18 ls [va_rf z]) e13) ?_
    refine gq_go (va_runV (b := a12) (As := []) (rest := []) ⟨hx, hb, hml, hown, hts⟩ (c_Mo_reckon l G a12  _ _ e10) (cwV 0 hts (gq_gV wd_211 wd_212 wd_213 wd_114 wd_210) rfl rfl rfl (by decide +kernel) ⟨Nat.le_trans (Nat.le_of_ble_eq_true rfl) hRf, Nat.le_trans (Nat.le_of_ble_eq_true rfl) hRl⟩) (gq_preV hK hN hM hS hb0 e11 (C := R_Mo) (T := T_Mo) (N := 23) rfl) rfl rfl hl.1 rfl (lv_room (Nat.le_of_ble_eq_true rfl)) d_Mo_arrival_18 ⟨Nat.le_trans (Nat.le_of_ble_eq_true rfl) hRc, Nat.le_trans (Nat.le_of_ble_eq_true rfl) hRs⟩) hS (fun H locs hM hS => ?_)
    refine W.eq (g2 := F0 m 21 ls []) rfl ?_
    refine mx_aload_n hx hb d_Mo_arrival_21 rfl (lv_at hl 0 rfl) ?_
    obtain ⟨x14, e15, h⟩ := mx_b h
    refine mx_getr hx hb hts i_Mo hown hK hM e15 (ci := 4) (C := R_Mo) (T := T_Mo) (N := 23) rfl 19 (by decide) (hts _ wd_29) d_Mo_arrival_22 ?_
    refine lv_iload_n hx hb d_Mo_arrival_25 rfl (lv_at hl 1 rfl) ?_
    obtain ⟨x16, e17, h⟩ := mx_b h
    refine mx_lald hx hb hK hM e17 rfl d_Mo_arrival_26 ?_
    cases h
    exact W.lret hx hb hr (fun t ht hW => ⟨⟨rfl, by rw [ht]; exact hM⟩, hS.F ht⟩) hS.2.2 d_Mo_arrival_27
  · rw [if_pos c8] at h
    refine lv_ldc2 (v := (-11)) hx hb hown (hts _ wd_290) d_Mo_arrival_13 ?_
    cases h
    exact W.lret hx hb hr (fun t ht hW => ⟨⟨rfl, by rw [ht]; exact hM⟩, hS.F ht⟩) hS.2.2 d_Mo_arrival_16
set_option maxHeartbeats 4000000 in
set_option maxRecDepth 100000 in
theorem c_LR_departs (l : Launch) (G : mx_G) (a0 : Nat) (v1 : Int32) (mem : mx_Mem) (q : Int64 × mx_Mem) (h : f_LR_departs a0 v1 mem = some q) : Met l y_LR_departs (gq_w y_LR_departs b_LR_departs 3 (some .long)) { frames := 1, cells := 0, slots := 0, locals := 21 } (gq_P G [.ref a0, .int v1] mem) (gq_Q G (some (.long q.1)) q.2) 0 0 (mx_A G) := by
  refine Met.ofW (cc := b_LR_departs) (maxL := 3) (ret := (some .long)) (by decide) rfl ?_
  intro p e s m args below meth c s₁ B hml hv
  obtain ⟨rfl, hb0, hM, hK, hN⟩ := hv
  have CX : gq_C p (headSpec (gq_w y_LR_departs b_LR_departs 3 (some .long)) { frames := 1, cells := 0, slots := 0, locals := 21 }).room s m _ meth c G b_LR_departs 3 (some .long) R_LR 1 0 0 21 := ⟨B.exec, B.bytes, hml, B.returns, findClass_of_methodNamed B.named, fun w hw => atoms_spec (ws := gq_w y_LR_departs b_LR_departs 3 (some .long)) B.pre w (List.mem_cons_of_mem _ hw), B.notSynchronized, hK, hN, hb0, Nat.le_refl _, Nat.le_refl _, Nat.le_refl _, Nat.le_refl _⟩
  obtain ⟨hx, hb, hml, hr, hown, hts, hlocks, hK, hN, hb0, hRf, hRc, hRs, hRl⟩ := id CX
  have hS : va_S (mx_A G) s.heap s.heap [] := va_S.rf
  have hl := lv_entry [.ref a0, .int v1] (n := 3) (Nat.le_of_ble_eq_true rfl)
  rw [lg_entry_eq]
  generalize (lg_sl [.ref a0, .int v1] ++ List.replicate (3 - (lg_sl [.ref a0, .int v1]).length) Slot.unset).toArray = ls at hl ⊢
  have hl : lv_has ls 3 [(0, va_rf (some a0)), (1, .int v1)] := hl
  unfold f_LR_departs at h
  refine mx_aload_n hx hb d_LR_departs_0 rfl (lv_at hl 0 rfl) ?_
  refine lv_iload_n hx hb d_LR_departs_1 rfl (lv_at hl 1 rfl) ?_
  obtain ⟨a4, e3, h⟩ := mx_b h
  obtain ⟨q1, e2, h⟩ := mx_b h
  have e5 := mx_c_eq e3
  refine W.eq (g2 := F0 m 2 ls [.int v1, .ref a4]) (congrArg (fun z => F0 m 2 ls [.int v1, va_rf z]) e5) ?_
  refine gq_go (va_runV (b := a4) (As := [.int v1]) (rest := []) ⟨hx, hb, hml, hown, hts⟩ (c_LR_findLine l G a4 v1 _ _ e2) (cwV 1 hts (gq_gV wd_123 wd_124 wd_125 wd_38 wd_122) rfl rfl rfl (by decide +kernel) ⟨Nat.le_trans (Nat.le_of_ble_eq_true rfl) hRf, Nat.le_trans (Nat.le_of_ble_eq_true rfl) hRl⟩) (gq_preV hK hN hM hS hb0 e3 (C := R_LR) (T := T_LR) (N := 5) rfl) rfl rfl hl.1 rfl (lv_room (Nat.le_of_ble_eq_true rfl)) d_LR_departs_2 ⟨Nat.le_trans (Nat.le_of_ble_eq_true rfl) hRc, Nat.le_trans (Nat.le_of_ble_eq_true rfl) hRs⟩) hS (fun H locs hM hS => ?_)
  refine W.eq (g2 := F0 m 5 ls [va_rf q1.1]) rfl ?_
  refine mx_astore_n (lv' := [(2, va_rf q1.1), (0, va_rf (some a0)), (1, .int v1)]) hx hb d_LR_departs_5 rfl hl (by decide) rfl (fun ls hl => ?_)
  refine mx_aload_n hx hb d_LR_departs_6 rfl (lv_at hl 0 rfl) ?_
  refine mx_ifnonnull (tgt := 16) hx hb d_LR_departs_7 (by decide) (fun c6 => ?_) (fun c6 => ?_)
  · rw [if_neg c6] at h
    refine mx_aload_n hx hb d_LR_departs_16 rfl (lv_at hl 0 rfl) ?_
    obtain ⟨x7, e8, h⟩ := mx_b h
    refine mx_getlN hx hb hts i_Li hown hK hM e8 (ci := 1) (C := R_Li) (T := T_Li) (N := 8) rfl 7 (by decide) (va_Nw.use rfl (hN _ nw_18)) d_LR_departs_17 ?_
    cases h
    exact W.lret hx hb hr (fun t ht hW => ⟨⟨rfl, by rw [ht]; exact hM⟩, hS.F ht⟩) hS.2.2 d_LR_departs_20
  · rw [if_pos c6] at h
    refine lv_ldc2 (v := (-11)) hx hb hown (hts _ wd_289) d_LR_departs_10 ?_
    refine lv_goto (tgt := 20) hx hb d_LR_departs_13 (by decide) ?_
    cases h
    exact W.lret hx hb hr (fun t ht hW => ⟨⟨rfl, by rw [ht]; exact hM⟩, hS.F ht⟩) hS.2.2 d_LR_departs_20
set_option maxHeartbeats 4000000 in
set_option maxRecDepth 100000 in
theorem c_Mo_departs (l : Launch) (G : mx_G) (a0 : Nat) (v1 : Int32) (mem : mx_Mem) (q : Int64 × mx_Mem) (h : f_Mo_departs a0 v1 mem = some q) : Met l y_Mo_departs (gq_w y_Mo_departs b_Mo_departs 2 (some .long)) { frames := 3, cells := 0, slots := 0, locals := 76 } (gq_P G [.ref a0, .int v1] mem) (gq_Q G (some (.long q.1)) q.2) 0 0 (mx_A G) := by
  refine Met.ofW (cc := b_Mo_departs) (maxL := 2) (ret := (some .long)) (by decide) rfl ?_
  intro p e s m args below meth c s₁ B hml hv
  obtain ⟨rfl, hb0, hM, hK, hN⟩ := hv
  have CX : gq_C p (headSpec (gq_w y_Mo_departs b_Mo_departs 2 (some .long)) { frames := 3, cells := 0, slots := 0, locals := 76 }).room s m _ meth c G b_Mo_departs 2 (some .long) R_Mo 3 0 0 76 := ⟨B.exec, B.bytes, hml, B.returns, findClass_of_methodNamed B.named, fun w hw => atoms_spec (ws := gq_w y_Mo_departs b_Mo_departs 2 (some .long)) B.pre w (List.mem_cons_of_mem _ hw), B.notSynchronized, hK, hN, hb0, Nat.le_refl _, Nat.le_refl _, Nat.le_refl _, Nat.le_refl _⟩
  obtain ⟨hx, hb, hml, hr, hown, hts, hlocks, hK, hN, hb0, hRf, hRc, hRs, hRl⟩ := id CX
  have hS : va_S (mx_A G) s.heap s.heap [] := va_S.rf
  have hl := lv_entry [.ref a0, .int v1] (n := 2) (Nat.le_of_ble_eq_true rfl)
  rw [lg_entry_eq]
  generalize (lg_sl [.ref a0, .int v1] ++ List.replicate (2 - (lg_sl [.ref a0, .int v1]).length) Slot.unset).toArray = ls at hl ⊢
  have hl : lv_has ls 2 [(0, va_rf (some a0)), (1, .int v1)] := hl
  unfold f_Mo_departs at h
  refine mx_aload_n hx hb d_Mo_departs_0 rfl (lv_at hl 0 rfl) ?_
  refine lv_iconst (v := 0) hx hb d_Mo_departs_1 (by decide) ?_
  obtain ⟨m1, e2, h⟩ := mx_b h
  refine mx_put hx hb hts i_Mo t_Mo t_Mo_ok n_Mo hown hK hM hS e2 (ci := 4) (C := R_Mo) (T := T_Mo) (N := 23) rfl 0 (by decide) (hts _ wd_109) rfl (ty := .int) (by decide +kernel) rfl rfl d_Mo_departs_2 (fun H locs hM hS => ?_)
  refine mx_aload_n hx hb d_Mo_departs_5 rfl (lv_at hl 0 rfl) ?_
  refine lv_iload_n hx hb d_Mo_departs_6 rfl (lv_at hl 1 rfl) ?_
  obtain ⟨a6, e5, h⟩ := mx_b h
  obtain ⟨q3, e4, h⟩ := mx_b h
  have e7 := mx_c_eq e5
  refine W.eq (g2 := F0 m 7 ls [.int v1, .ref a6]) (congrArg (fun z => F0 m 7 ls [.int v1, va_rf z]) e7) ?_
  refine gq_go (va_runV (b := a6) (As := [.int v1]) (rest := []) ⟨hx, hb, hml, hown, hts⟩ (c_Mo_isLine l G a6 v1 _ _ e4) (cwV 1 hts (gq_gV wd_137 wd_138 wd_139 wd_114 wd_136) rfl rfl rfl (by decide +kernel) ⟨Nat.le_trans (Nat.le_of_ble_eq_true rfl) hRf, Nat.le_trans (Nat.le_of_ble_eq_true rfl) hRl⟩) (gq_preV hK hN hM hS hb0 e5 (C := R_Mo) (T := T_Mo) (N := 23) rfl) rfl rfl hl.1 rfl (lv_room (Nat.le_of_ble_eq_true rfl)) d_Mo_departs_7 ⟨Nat.le_trans (Nat.le_of_ble_eq_true rfl) hRc, Nat.le_trans (Nat.le_of_ble_eq_true rfl) hRs⟩) hS (fun H locs hM hS => ?_)
  refine W.eq (g2 := F0 m 10 ls [.int q3.1]) rfl ?_
  refine lv_if_ne (tgt := 17) hx hb d_Mo_departs_10 (by decide) (fun c8 => ?_) (fun c8 => ?_)
  · rw [if_neg c8] at h
    refine mx_aload_n hx hb d_Mo_departs_17 rfl (lv_at hl 0 rfl) ?_
    obtain ⟨a12, e11, h⟩ := mx_b h
    obtain ⟨q9, e10, h⟩ := mx_b h
    have e13 := mx_c_eq e11
    refine W.eq (g2 := F0 m 18 ls [.ref a12]) (congrArg (fun z => F0 m 18 ls [va_rf z]) e13) ?_
    refine gq_go (va_runV (b := a12) (As := []) (rest := []) ⟨hx, hb, hml, hown, hts⟩ (c_Mo_reckon l G a12  _ _ e10) (cwV 0 hts (gq_gV wd_211 wd_212 wd_213 wd_114 wd_210) rfl rfl rfl (by decide +kernel) ⟨Nat.le_trans (Nat.le_of_ble_eq_true rfl) hRf, Nat.le_trans (Nat.le_of_ble_eq_true rfl) hRl⟩) (gq_preV hK hN hM hS hb0 e11 (C := R_Mo) (T := T_Mo) (N := 23) rfl) rfl rfl hl.1 rfl (lv_room (Nat.le_of_ble_eq_true rfl)) d_Mo_departs_18 ⟨Nat.le_trans (Nat.le_of_ble_eq_true rfl) hRc, Nat.le_trans (Nat.le_of_ble_eq_true rfl) hRs⟩) hS (fun H locs hM hS => ?_)
    refine W.eq (g2 := F0 m 21 ls []) rfl ?_
    refine mx_aload_n hx hb d_Mo_departs_21 rfl (lv_at hl 0 rfl) ?_
    obtain ⟨x14, e15, h⟩ := mx_b h
    refine mx_getr hx hb hts i_Mo hown hK hM e15 (ci := 4) (C := R_Mo) (T := T_Mo) (N := 23) rfl 8 (by decide) (hts _ wd_19) d_Mo_departs_22 ?_
    refine lv_iload_n hx hb d_Mo_departs_25 rfl (lv_at hl 1 rfl) ?_
    obtain ⟨x16, e17, h⟩ := mx_b h
    refine mx_lald hx hb hK hM e17 rfl d_Mo_departs_26 ?_
    cases h
    exact W.lret hx hb hr (fun t ht hW => ⟨⟨rfl, by rw [ht]; exact hM⟩, hS.F ht⟩) hS.2.2 d_Mo_departs_27
  · rw [if_pos c8] at h
    refine lv_ldc2 (v := (-11)) hx hb hown (hts _ wd_290) d_Mo_departs_13 ?_
    cases h
    exact W.lret hx hb hr (fun t ht hW => ⟨⟨rfl, by rw [ht]; exact hM⟩, hS.F ht⟩) hS.2.2 d_Mo_departs_16
set_option maxHeartbeats 4000000 in
set_option maxRecDepth 100000 in
theorem wfl_LR_none_4 {p : Program} {l : Launch} {e : Env} {R : Room} {s : State} {m : MethodId} {args : Array Value} {below : List Frame} {meth : Method} {c : Code} {G : mx_G} (q : Int32 × mx_Mem) (CX : gq_C p R s m args meth c G b_LR_none 4 (some .int) R_LR 0 0 0 0)  : ∀ (n : Nat) (v0 : Option Nat) (v1 : Int32) (v2 : Int32) (v3 : Int32) (mem : mx_Mem), fl_LR_none_4  n v0 v1 v2 v3 mem = some q → ∀ (H : Heap) (locs : List Loc) (ls : Array Slot), lv_has ls 4 [(0, va_rf v0), (1, .int v1), (2, .int v2), (3, .int v3)] → mx_M vwCl G mem H → va_S (mx_A G) s.heap H locs → W p l e R s m args below meth c H locs 0 0 (MQ below (gq_Q G (some (.int q.1)) q.2) args s 0 0 (mx_A G)) (F0 m 4 ls []) := by
  obtain ⟨hx, hb, hml, hr, hown, hts, hlocks, hK, hN, hb0, hRf, hRc, hRs, hRl⟩ := id CX
  intro n
  induction n with
  | zero => intro v0 v1 v2 v3 mem h; rw [fl_LR_none_4] at h; cases h
  | succ n ih =>
    intro v0 v1 v2 v3 mem h H locs ls hl hM hS
    rw [fl_LR_none_4] at h
    refine lv_iload_n hx hb d_LR_none_4 rfl (lv_at hl 3 rfl) ?_
    refine mx_aload_n hx hb d_LR_none_5 rfl (lv_at hl 0 rfl) ?_
    obtain ⟨x1, e2, h⟩ := mx_b h
    refine mx_geti hx hb hts i_LR hown hK hM e2 (ci := 0) (C := R_LR) (T := T_LR) (N := 5) rfl 4 (by decide) (hts _ wd_9) d_LR_none_6 ?_
    refine lv_icmp_ge (tgt := 42) hx hb d_LR_none_9 (by decide) (fun c3 => ?_) (fun c3 => ?_)
    · rw [if_pos c3] at h
      refine lv_iconst (v := (-1)) hx hb d_LR_none_42 (by decide) ?_
      cases h
      exact W.iret hx hb hr (fun t ht hW => ⟨⟨rfl, by rw [ht]; exact hM⟩, hS.F ht⟩) hS.2.2 d_LR_none_43
    · rw [if_neg c3] at h
      refine mx_aload_n hx hb d_LR_none_12 rfl (lv_at hl 0 rfl) ?_
      obtain ⟨x4, e5, h⟩ := mx_b h
      refine mx_getr hx hb hts i_LR hown hK hM e5 (ci := 0) (C := R_LR) (T := T_LR) (N := 5) rfl 2 (by decide) (hts _ wd_6) d_LR_none_13 ?_
      refine lv_iload_n hx hb d_LR_none_16 rfl (lv_at hl 3 rfl) ?_
      obtain ⟨x6, e7, h⟩ := mx_b h
      refine mx_aald hx hb hK hM e7 rfl d_LR_none_17 ?_
      obtain ⟨x8, e9, h⟩ := mx_b h
      refine mx_getiN hx hb hts i_Lo hown hK hM e9 (ci := 3) (C := R_Lo) (T := T_Lo) (N := 12) rfl 11 (by decide) (va_Nw.use rfl (hN _ nw_12)) d_LR_none_18 ?_
      refine lv_if_eq (tgt := 36) hx hb d_LR_none_21 (by decide) (fun c10 => ?_) (fun c10 => ?_)
      · rw [if_pos c10] at h
        refine lv_iinc (v := (v3 + 1)) (lv' := [(3, .int ((v3 + 1))), (0, va_rf v0), (1, .int v1), (2, .int v2)]) hx hb d_LR_none_36 hl (k := 3) rfl rfl (by decide) rfl (fun ls hl => ?_)
        refine lv_goto (tgt := 4) hx hb d_LR_none_39 (by decide) ?_
        exact ih _ _ _ _ _ h _ _ _ (lv_sub hl [1, 2, 3, 0] rfl) hM hS
      · rw [if_neg c10] at h
        refine lv_iload_n hx hb d_LR_none_24 rfl (lv_at hl 2 rfl) ?_
        refine lv_iload_n hx hb d_LR_none_25 rfl (lv_at hl 1 rfl) ?_
        refine lv_icmp_ne (tgt := 33) hx hb d_LR_none_26 (by decide) (fun c11 => ?_) (fun c11 => ?_)
        · rw [if_neg c11] at h
          refine lv_iinc (v := (v2 + 1)) (lv' := [(2, .int ((v2 + 1))), (0, va_rf v0), (1, .int v1), (3, .int v3)]) hx hb d_LR_none_33 hl (k := 2) rfl rfl (by decide) rfl (fun ls hl => ?_)
          refine lv_iinc (v := (v3 + 1)) (lv' := [(3, .int ((v3 + 1))), (2, .int ((v2 + 1))), (0, va_rf v0), (1, .int v1)]) hx hb d_LR_none_36 hl (k := 3) rfl rfl (by decide) rfl (fun ls hl => ?_)
          refine lv_goto (tgt := 4) hx hb d_LR_none_39 (by decide) ?_
          exact ih _ _ _ _ _ h _ _ _ (lv_sub hl [2, 3, 1, 0] rfl) hM hS
        · rw [if_pos c11] at h
          refine lv_iload_n hx hb d_LR_none_29 rfl (lv_at hl 3 rfl) ?_
          refine lv_iconst (v := 1) hx hb d_LR_none_30 (by decide) ?_
          refine lv_iadd hx hb d_LR_none_31 ?_
          cases h
          exact W.iret hx hb hr (fun t ht hW => ⟨⟨rfl, by rw [ht]; exact hM⟩, hS.F ht⟩) hS.2.2 d_LR_none_32
set_option maxHeartbeats 4000000 in
set_option maxRecDepth 100000 in
theorem c_LR_none (l : Launch) (G : mx_G) (a0 : Nat) (v1 : Int32) (mem : mx_Mem) (q : Int32 × mx_Mem) (h : f_LR_none a0 v1 mem = some q) : Met l y_LR_none (gq_w y_LR_none b_LR_none 4 (some .int)) { frames := 0, cells := 0, slots := 0, locals := 0 } (gq_P G [.ref a0, .int v1] mem) (gq_Q G (some (.int q.1)) q.2) 0 0 (mx_A G) := by
  refine Met.ofW (cc := b_LR_none) (maxL := 4) (ret := (some .int)) (by decide) rfl ?_
  intro p e s m args below meth c s₁ B hml hv
  obtain ⟨rfl, hb0, hM, hK, hN⟩ := hv
  have CX : gq_C p (headSpec (gq_w y_LR_none b_LR_none 4 (some .int)) { frames := 0, cells := 0, slots := 0, locals := 0 }).room s m _ meth c G b_LR_none 4 (some .int) R_LR 0 0 0 0 := ⟨B.exec, B.bytes, hml, B.returns, findClass_of_methodNamed B.named, fun w hw => atoms_spec (ws := gq_w y_LR_none b_LR_none 4 (some .int)) B.pre w (List.mem_cons_of_mem _ hw), B.notSynchronized, hK, hN, hb0, Nat.le_refl _, Nat.le_refl _, Nat.le_refl _, Nat.le_refl _⟩
  obtain ⟨hx, hb, hml, hr, hown, hts, hlocks, hK, hN, hb0, hRf, hRc, hRs, hRl⟩ := id CX
  have hS : va_S (mx_A G) s.heap s.heap [] := va_S.rf
  have hl := lv_entry [.ref a0, .int v1] (n := 4) (Nat.le_of_ble_eq_true rfl)
  rw [lg_entry_eq]
  generalize (lg_sl [.ref a0, .int v1] ++ List.replicate (4 - (lg_sl [.ref a0, .int v1]).length) Slot.unset).toArray = ls at hl ⊢
  have hl : lv_has ls 4 [(0, va_rf (some a0)), (1, .int v1)] := hl
  unfold f_LR_none at h
  refine lv_iconst (v := 0) hx hb d_LR_none_0 (by decide) ?_
  refine lv_istore_n (lv' := [(2, .int 0), (0, va_rf (some a0)), (1, .int v1)]) hx hb d_LR_none_1 rfl hl (by decide) rfl (fun ls hl => ?_)
  refine lv_iconst (v := 0) hx hb d_LR_none_2 (by decide) ?_
  refine lv_istore_n (lv' := [(3, .int 0), (2, .int 0), (0, va_rf (some a0)), (1, .int v1)]) hx hb d_LR_none_3 rfl hl (by decide) rfl (fun ls hl => ?_)
  refine wfl_LR_none_4 q CX  5000 _ _ _ _ _ h _ _ _ (lv_sub hl [2, 3, 1, 0] rfl) hM hS
end
section
set_option maxHeartbeats 4000000 in
set_option maxRecDepth 100000 in
theorem wfl_Mo_none_13 {p : Program} {l : Launch} {e : Env} {R : Room} {s : State} {m : MethodId} {args : Array Value} {below : List Frame} {meth : Method} {c : Code} {G : mx_G} (q : Int32 × mx_Mem) (CX : gq_C p R s m args meth c G b_Mo_none 4 (some .int) R_Mo 3 0 0 76)  : ∀ (n : Nat) (v0 : Option Nat) (v1 : Int32) (v2 : Int32) (v3 : Int32) (mem : mx_Mem), fl_Mo_none_13  n v0 v1 v2 v3 mem = some q → ∀ (H : Heap) (locs : List Loc) (ls : Array Slot), lv_has ls 4 [(0, va_rf v0), (1, .int v1), (2, .int v2), (3, .int v3)] → mx_M vwCl G mem H → va_S (mx_A G) s.heap H locs → W p l e R s m args below meth c H locs 0 0 (MQ below (gq_Q G (some (.int q.1)) q.2) args s 0 0 (mx_A G)) (F0 m 13 ls []) := by
  obtain ⟨hx, hb, hml, hr, hown, hts, hlocks, hK, hN, hb0, hRf, hRc, hRs, hRl⟩ := id CX
  intro n
  induction n with
  | zero => intro v0 v1 v2 v3 mem h; rw [fl_Mo_none_13] at h; cases h
  | succ n ih =>
    intro v0 v1 v2 v3 mem h H locs ls hl hM hS
    rw [fl_Mo_none_13] at h
    refine lv_iload_n hx hb d_Mo_none_13 rfl (lv_at hl 3 rfl) ?_
    refine mx_aload_n hx hb d_Mo_none_14 rfl (lv_at hl 0 rfl) ?_
    obtain ⟨x1, e2, h⟩ := mx_b h
    refine mx_geti hx hb hts i_Mo hown hK hM e2 (ci := 4) (C := R_Mo) (T := T_Mo) (N := 23) rfl 9 (by decide) (hts _ wd_142) d_Mo_none_15 ?_
    refine lv_icmp_gt (tgt := 46) hx hb d_Mo_none_18 (by decide) (fun c3 => ?_) (fun c3 => ?_)
    · rw [if_pos c3] at h
      refine lv_iconst (v := (-1)) hx hb d_Mo_none_46 (by decide) ?_
      cases h
      exact W.iret hx hb hr (fun t ht hW => ⟨⟨rfl, by rw [ht]; exact hM⟩, hS.F ht⟩) hS.2.2 d_Mo_none_47
    · rw [if_neg c3] at h
      refine mx_aload_n hx hb d_Mo_none_21 rfl (lv_at hl 0 rfl) ?_
      obtain ⟨x4, e5, h⟩ := mx_b h
      refine mx_getr hx hb hts i_Mo hown hK hM e5 (ci := 4) (C := R_Mo) (T := T_Mo) (N := 23) rfl 20 (by decide) (hts _ wd_31) d_Mo_none_22 ?_
      refine lv_iload_n hx hb d_Mo_none_25 rfl (lv_at hl 3 rfl) ?_
      obtain ⟨x6, e7, h⟩ := mx_b h
      refine mx_bald hx hb hK hM e7 rfl d_Mo_none_26 ?_
      refine lv_if_eq (tgt := 40) hx hb d_Mo_none_27 (by decide) (fun c8 => ?_) (fun c8 => ?_)
      · rw [if_pos c8] at h
        refine lv_iinc (v := (v3 + 1)) (lv' := [(3, .int ((v3 + 1))), (0, va_rf v0), (1, .int v1), (2, .int v2)]) hx hb d_Mo_none_40 hl (k := 3) rfl rfl (by decide) rfl (fun ls hl => ?_)
        refine lv_goto (tgt := 13) hx hb d_Mo_none_43 (by decide) ?_
        exact ih _ _ _ _ _ h _ _ _ (lv_sub hl [1, 2, 3, 0] rfl) hM hS
      · rw [if_neg c8] at h
        refine lv_iload_n hx hb d_Mo_none_30 rfl (lv_at hl 2 rfl) ?_
        refine lv_iload_n hx hb d_Mo_none_31 rfl (lv_at hl 1 rfl) ?_
        refine lv_icmp_ne (tgt := 37) hx hb d_Mo_none_32 (by decide) (fun c9 => ?_) (fun c9 => ?_)
        · rw [if_neg c9] at h
          refine lv_iinc (v := (v2 + 1)) (lv' := [(2, .int ((v2 + 1))), (0, va_rf v0), (1, .int v1), (3, .int v3)]) hx hb d_Mo_none_37 hl (k := 2) rfl rfl (by decide) rfl (fun ls hl => ?_)
          refine lv_iinc (v := (v3 + 1)) (lv' := [(3, .int ((v3 + 1))), (2, .int ((v2 + 1))), (0, va_rf v0), (1, .int v1)]) hx hb d_Mo_none_40 hl (k := 3) rfl rfl (by decide) rfl (fun ls hl => ?_)
          refine lv_goto (tgt := 13) hx hb d_Mo_none_43 (by decide) ?_
          exact ih _ _ _ _ _ h _ _ _ (lv_sub hl [2, 3, 1, 0] rfl) hM hS
        · rw [if_pos c9] at h
          refine lv_iload_n hx hb d_Mo_none_35 rfl (lv_at hl 3 rfl) ?_
          cases h
          exact W.iret hx hb hr (fun t ht hW => ⟨⟨rfl, by rw [ht]; exact hM⟩, hS.F ht⟩) hS.2.2 d_Mo_none_36
set_option maxHeartbeats 4000000 in
set_option maxRecDepth 100000 in
theorem c_Mo_none (l : Launch) (G : mx_G) (a0 : Nat) (v1 : Int32) (mem : mx_Mem) (q : Int32 × mx_Mem) (h : f_Mo_none a0 v1 mem = some q) : Met l y_Mo_none (gq_w y_Mo_none b_Mo_none 4 (some .int)) { frames := 3, cells := 0, slots := 0, locals := 76 } (gq_P G [.ref a0, .int v1] mem) (gq_Q G (some (.int q.1)) q.2) 0 0 (mx_A G) := by
  refine Met.ofW (cc := b_Mo_none) (maxL := 4) (ret := (some .int)) (by decide) rfl ?_
  intro p e s m args below meth c s₁ B hml hv
  obtain ⟨rfl, hb0, hM, hK, hN⟩ := hv
  have CX : gq_C p (headSpec (gq_w y_Mo_none b_Mo_none 4 (some .int)) { frames := 3, cells := 0, slots := 0, locals := 76 }).room s m _ meth c G b_Mo_none 4 (some .int) R_Mo 3 0 0 76 := ⟨B.exec, B.bytes, hml, B.returns, findClass_of_methodNamed B.named, fun w hw => atoms_spec (ws := gq_w y_Mo_none b_Mo_none 4 (some .int)) B.pre w (List.mem_cons_of_mem _ hw), B.notSynchronized, hK, hN, hb0, Nat.le_refl _, Nat.le_refl _, Nat.le_refl _, Nat.le_refl _⟩
  obtain ⟨hx, hb, hml, hr, hown, hts, hlocks, hK, hN, hb0, hRf, hRc, hRs, hRl⟩ := id CX
  have hS : va_S (mx_A G) s.heap s.heap [] := va_S.rf
  have hl := lv_entry [.ref a0, .int v1] (n := 4) (Nat.le_of_ble_eq_true rfl)
  rw [lg_entry_eq]
  generalize (lg_sl [.ref a0, .int v1] ++ List.replicate (4 - (lg_sl [.ref a0, .int v1]).length) Slot.unset).toArray = ls at hl ⊢
  have hl : lv_has ls 4 [(0, va_rf (some a0)), (1, .int v1)] := hl
  unfold f_Mo_none at h
  refine mx_aload_n hx hb d_Mo_none_0 rfl (lv_at hl 0 rfl) ?_
  refine lv_iconst (v := 0) hx hb d_Mo_none_1 (by decide) ?_
  obtain ⟨m1, e2, h⟩ := mx_b h
  refine mx_put hx hb hts i_Mo t_Mo t_Mo_ok n_Mo hown hK hM hS e2 (ci := 4) (C := R_Mo) (T := T_Mo) (N := 23) rfl 0 (by decide) (hts _ wd_109) rfl (ty := .int) (by decide +kernel) rfl rfl d_Mo_none_2 (fun H locs hM hS => ?_)
  refine mx_aload_n hx hb d_Mo_none_5 rfl (lv_at hl 0 rfl) ?_
  obtain ⟨a6, e5, h⟩ := mx_b h
  obtain ⟨q3, e4, h⟩ := mx_b h
  have e7 := mx_c_eq e5
  refine W.eq (g2 := F0 m 6 ls [.ref a6]) (congrArg (fun z => F0 m 6 ls [va_rf z]) e7) ?_
  refine gq_go (va_runV (b := a6) (As := []) (rest := []) ⟨hx, hb, hml, hown, hts⟩ (c_Mo_reckon l G a6  _ _ e4) (cwV 0 hts (gq_gV wd_211 wd_212 wd_213 wd_114 wd_210) rfl rfl rfl (by decide +kernel) ⟨Nat.le_trans (Nat.le_of_ble_eq_true rfl) hRf, Nat.le_trans (Nat.le_of_ble_eq_true rfl) hRl⟩) (gq_preV hK hN hM hS hb0 e5 (C := R_Mo) (T := T_Mo) (N := 23) rfl) rfl rfl hl.1 rfl (lv_room (Nat.le_of_ble_eq_true rfl)) d_Mo_none_6 ⟨Nat.le_trans (Nat.le_of_ble_eq_true rfl) hRc, Nat.le_trans (Nat.le_of_ble_eq_true rfl) hRs⟩) hS (fun H locs hM hS => ?_)
  refine W.eq (g2 := F0 m 9 ls []) rfl ?_
  refine lv_iconst (v := 0) hx hb d_Mo_none_9 (by decide) ?_
  refine lv_istore_n (lv' := [(2, .int 0), (0, va_rf (some a0)), (1, .int v1)]) hx hb d_Mo_none_10 rfl hl (by decide) rfl (fun ls hl => ?_)
  refine lv_iconst (v := 1) hx hb d_Mo_none_11 (by decide) ?_
  refine lv_istore_n (lv' := [(3, .int 1), (2, .int 0), (0, va_rf (some a0)), (1, .int v1)]) hx hb d_Mo_none_12 rfl hl (by decide) rfl (fun ls hl => ?_)
  refine wfl_Mo_none_13 q CX  5000 _ _ _ _ _ h _ _ _ (lv_sub hl [2, 3, 1, 0] rfl) hM hS
set_option maxHeartbeats 4000000 in
set_option maxRecDepth 100000 in
theorem c_LR_acts (l : Launch) (G : mx_G) (a0 : Nat) (mem : mx_Mem) (q : Int32 × mx_Mem) (h : f_LR_acts a0 mem = some q) : Met l y_LR_acts (gq_w y_LR_acts b_LR_acts 1 (some .int)) { frames := 3, cells := 0, slots := 0, locals := 63 } (gq_P G [.ref a0] mem) (gq_Q G (some (.int q.1)) q.2) 0 0 (mx_A G) := by
  refine Met.ofW (cc := b_LR_acts) (maxL := 1) (ret := (some .int)) (by decide) rfl ?_
  intro p e s m args below meth c s₁ B hml hv
  obtain ⟨rfl, hb0, hM, hK, hN⟩ := hv
  have CX : gq_C p (headSpec (gq_w y_LR_acts b_LR_acts 1 (some .int)) { frames := 3, cells := 0, slots := 0, locals := 63 }).room s m _ meth c G b_LR_acts 1 (some .int) R_LR 3 0 0 63 := ⟨B.exec, B.bytes, hml, B.returns, findClass_of_methodNamed B.named, fun w hw => atoms_spec (ws := gq_w y_LR_acts b_LR_acts 1 (some .int)) B.pre w (List.mem_cons_of_mem _ hw), B.notSynchronized, hK, hN, hb0, Nat.le_refl _, Nat.le_refl _, Nat.le_refl _, Nat.le_refl _⟩
  obtain ⟨hx, hb, hml, hr, hown, hts, hlocks, hK, hN, hb0, hRf, hRc, hRs, hRl⟩ := id CX
  have hS : va_S (mx_A G) s.heap s.heap [] := va_S.rf
  have hl := lv_entry [.ref a0] (n := 1) (Nat.le_of_ble_eq_true rfl)
  rw [lg_entry_eq]
  generalize (lg_sl [.ref a0] ++ List.replicate (1 - (lg_sl [.ref a0]).length) Slot.unset).toArray = ls at hl ⊢
  have hl : lv_has ls 1 [(0, va_rf (some a0))] := hl
  unfold f_LR_acts at h
  refine mx_aload_n hx hb d_LR_acts_0 rfl (lv_at hl 0 rfl) ?_
  obtain ⟨a4, e3, h⟩ := mx_b h
  obtain ⟨q1, e2, h⟩ := mx_b h
  have e5 := mx_c_eq e3
  refine W.eq (g2 := F0 m 1 ls [.ref a4]) (congrArg (fun z => F0 m 1 ls [va_rf z]) e5) ?_
  refine gq_go (va_runV (b := a4) (As := []) (rest := []) ⟨hx, hb, hml, hown, hts⟩ (c_LR_countActs l G a4  _ _ e2) (cwV 0 hts (gq_gV wd_266 wd_267 wd_268 wd_38 wd_265) rfl rfl rfl (by decide +kernel) ⟨Nat.le_trans (Nat.le_of_ble_eq_true rfl) hRf, Nat.le_trans (Nat.le_of_ble_eq_true rfl) hRl⟩) (gq_preV hK hN hM hS hb0 e3 (C := R_LR) (T := T_LR) (N := 5) rfl) rfl rfl hl.1 rfl (lv_room (Nat.le_of_ble_eq_true rfl)) d_LR_acts_1 ⟨Nat.le_trans (Nat.le_of_ble_eq_true rfl) hRc, Nat.le_trans (Nat.le_of_ble_eq_true rfl) hRs⟩) hS (fun H locs hM hS => ?_)
  refine W.eq (g2 := F0 m 4 ls [.int q1.1]) rfl ?_
  cases h
  exact W.iret hx hb hr (fun t ht hW => ⟨⟨rfl, by rw [ht]; exact hM⟩, hS.F ht⟩) hS.2.2 d_LR_acts_4
set_option maxHeartbeats 4000000 in
set_option maxRecDepth 100000 in
theorem c_Mo_acts (l : Launch) (G : mx_G) (a0 : Nat) (mem : mx_Mem) (q : Int32 × mx_Mem) (h : f_Mo_acts a0 mem = some q) : Met l y_Mo_acts (gq_w y_Mo_acts b_Mo_acts 1 (some .int)) { frames := 1, cells := 0, slots := 0, locals := 22 } (gq_P G [.ref a0] mem) (gq_Q G (some (.int q.1)) q.2) 0 0 (mx_A G) := by
  refine Met.ofW (cc := b_Mo_acts) (maxL := 1) (ret := (some .int)) (by decide) rfl ?_
  intro p e s m args below meth c s₁ B hml hv
  obtain ⟨rfl, hb0, hM, hK, hN⟩ := hv
  have CX : gq_C p (headSpec (gq_w y_Mo_acts b_Mo_acts 1 (some .int)) { frames := 1, cells := 0, slots := 0, locals := 22 }).room s m _ meth c G b_Mo_acts 1 (some .int) R_Mo 1 0 0 22 := ⟨B.exec, B.bytes, hml, B.returns, findClass_of_methodNamed B.named, fun w hw => atoms_spec (ws := gq_w y_Mo_acts b_Mo_acts 1 (some .int)) B.pre w (List.mem_cons_of_mem _ hw), B.notSynchronized, hK, hN, hb0, Nat.le_refl _, Nat.le_refl _, Nat.le_refl _, Nat.le_refl _⟩
  obtain ⟨hx, hb, hml, hr, hown, hts, hlocks, hK, hN, hb0, hRf, hRc, hRs, hRl⟩ := id CX
  have hS : va_S (mx_A G) s.heap s.heap [] := va_S.rf
  have hl := lv_entry [.ref a0] (n := 1) (Nat.le_of_ble_eq_true rfl)
  rw [lg_entry_eq]
  generalize (lg_sl [.ref a0] ++ List.replicate (1 - (lg_sl [.ref a0]).length) Slot.unset).toArray = ls at hl ⊢
  have hl : lv_has ls 1 [(0, va_rf (some a0))] := hl
  unfold f_Mo_acts at h
  refine mx_aload_n hx hb d_Mo_acts_0 rfl (lv_at hl 0 rfl) ?_
  refine lv_iconst (v := 0) hx hb d_Mo_acts_1 (by decide) ?_
  obtain ⟨m1, e2, h⟩ := mx_b h
  refine mx_put hx hb hts i_Mo t_Mo t_Mo_ok n_Mo hown hK hM hS e2 (ci := 4) (C := R_Mo) (T := T_Mo) (N := 23) rfl 0 (by decide) (hts _ wd_109) rfl (ty := .int) (by decide +kernel) rfl rfl d_Mo_acts_2 (fun H locs hM hS => ?_)
  refine mx_aload_n hx hb d_Mo_acts_5 rfl (lv_at hl 0 rfl) ?_
  obtain ⟨a6, e5, h⟩ := mx_b h
  obtain ⟨q3, e4, h⟩ := mx_b h
  have e7 := mx_c_eq e5
  refine W.eq (g2 := F0 m 6 ls [.ref a6]) (congrArg (fun z => F0 m 6 ls [va_rf z]) e7) ?_
  refine gq_go (va_runV (b := a6) (As := []) (rest := []) ⟨hx, hb, hml, hown, hts⟩ (c_Mo_actsNow l G a6  _ _ e4) (cwV 0 hts (gq_gV wd_282 wd_283 wd_284 wd_114 wd_281) rfl rfl rfl (by decide +kernel) ⟨Nat.le_trans (Nat.le_of_ble_eq_true rfl) hRf, Nat.le_trans (Nat.le_of_ble_eq_true rfl) hRl⟩) (gq_preV hK hN hM hS hb0 e5 (C := R_Mo) (T := T_Mo) (N := 23) rfl) rfl rfl hl.1 rfl (lv_room (Nat.le_of_ble_eq_true rfl)) d_Mo_acts_6 ⟨Nat.le_trans (Nat.le_of_ble_eq_true rfl) hRc, Nat.le_trans (Nat.le_of_ble_eq_true rfl) hRs⟩) hS (fun H locs hM hS => ?_)
  refine W.eq (g2 := F0 m 9 ls [.int q3.1]) rfl ?_
  cases h
  exact W.iret hx hb hr (fun t ht hW => ⟨⟨rfl, by rw [ht]; exact hM⟩, hS.F ht⟩) hS.2.2 d_Mo_acts_9
end
