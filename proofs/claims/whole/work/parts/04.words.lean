def gq_tys (G : mx_G) : List (ClassId × FieldType) := [(G.2.2 0, (.object "LateRoutes$Line")), (G.2.2 1, (.object "LateRoutes$Load")), (G.2.2 2, (.object "LateRoutes$Option")), (G.2.2 3, .int), (G.2.2 4, .long), (G.2.2 5, .boolean)]
def gq_tbl : List Cond := lw_tbl.filter goodWord
theorem gq_m {w : Cond} (i : Nat) (h : tables_1[i]? = some w) (hg : goodWord w = true) : w ∈ gq_tbl := List.mem_filter.mpr ⟨List.mem_append_right _ (List.mem_of_getElem? h), hg⟩
theorem gq_s {w : Cond} (i : Nat) (h : (k2_sels lw_privs)[i]? = some w) (hg : goodWord w = true) : w ∈ gq_tbl := List.mem_filter.mpr ⟨List.mem_append_left _ (List.mem_of_getElem? h), hg⟩
set_option maxRecDepth 20000 in
theorem wd_0 : Cond.methodLink R_LR 1 objectInit ∈ gq_tbl := gq_m 12 (by decide +kernel) rfl
set_option maxRecDepth 20000 in
theorem wd_1 : Cond.instanceMethod objectInit ∈ gq_tbl := gq_m 13 (by decide +kernel) rfl
set_option maxRecDepth 20000 in
theorem wd_2 : Cond.code objectInit ⟨#[0xb1]⟩ 1 none ∈ gq_tbl := gq_m 14 rfl rfl
set_option maxRecDepth 20000 in
theorem wd_3 : Cond.classLink R_LR 9 R_Li ∈ gq_tbl := gq_m 15 (by decide +kernel) rfl
set_option maxRecDepth 20000 in
theorem wd_4 : Cond.fieldLink R_LR 11 "LateRoutes" "lines" "[LLateRoutes$Line;" ∈ gq_tbl := gq_m 19 (by decide +kernel) rfl
set_option maxRecDepth 20000 in
theorem wd_5 : Cond.classLink R_LR 15 R_Lo ∈ gq_tbl := gq_m 17 (by decide +kernel) rfl
set_option maxRecDepth 20000 in
theorem wd_6 : Cond.fieldLink R_LR 17 "LateRoutes" "loads" "[LLateRoutes$Load;" ∈ gq_tbl := gq_m 21 (by decide +kernel) rfl
set_option maxRecDepth 20000 in
theorem wd_7 : Cond.fieldLink R_LR 21 "LateRoutes" "loadsByLeaving" "[LLateRoutes$Load;" ∈ gq_tbl := gq_m 22 (by decide +kernel) rfl
set_option maxRecDepth 20000 in
theorem wd_8 : Cond.fieldLink R_LR 24 "LateRoutes" "lineCount" "I" ∈ gq_tbl := gq_m 20 (by decide +kernel) rfl
set_option maxRecDepth 20000 in
theorem wd_9 : Cond.fieldLink R_LR 28 "LateRoutes" "loadCount" "I" ∈ gq_tbl := gq_m 23 (by decide +kernel) rfl
set_option maxRecDepth 20000 in
theorem wd_10 : Cond.methodLink R_Mo 1 objectInit ∈ gq_tbl := gq_m 347 (by decide +kernel) rfl
set_option maxRecDepth 20000 in
theorem wd_11 : Cond.arrayClass .int ∈ gq_tbl := gq_m 418 (by decide +kernel) rfl
set_option maxRecDepth 20000 in
theorem wd_12 : Cond.fieldLink R_Mo 7 "LateRoutesModel" "froms" "[I" ∈ gq_tbl := gq_m 350 (by decide +kernel) rfl
set_option maxRecDepth 20000 in
theorem wd_13 : Cond.fieldLink R_Mo 13 "LateRoutesModel" "tos" "[I" ∈ gq_tbl := gq_m 351 (by decide +kernel) rfl
set_option maxRecDepth 20000 in
theorem wd_14 : Cond.arrayClass .long ∈ gq_tbl := gq_m 419 (by decide +kernel) rfl
set_option maxRecDepth 20000 in
theorem wd_15 : Cond.fieldLink R_Mo 16 "LateRoutesModel" "leaves" "[J" ∈ gq_tbl := gq_m 352 (by decide +kernel) rfl
set_option maxRecDepth 20000 in
theorem wd_16 : Cond.fieldLink R_Mo 20 "LateRoutesModel" "arrives" "[J" ∈ gq_tbl := gq_m 353 (by decide +kernel) rfl
set_option maxRecDepth 20000 in
theorem wd_17 : Cond.fieldLink R_Mo 23 "LateRoutesModel" "delays" "[J" ∈ gq_tbl := gq_m 354 (by decide +kernel) rfl
set_option maxRecDepth 20000 in
theorem wd_18 : Cond.fieldLink R_Mo 26 "LateRoutesModel" "mosts" "[J" ∈ gq_tbl := gq_m 355 (by decide +kernel) rfl
set_option maxRecDepth 20000 in
theorem wd_19 : Cond.fieldLink R_Mo 29 "LateRoutesModel" "departed" "[J" ∈ gq_tbl := gq_m 356 (by decide +kernel) rfl
set_option maxRecDepth 20000 in
theorem wd_20 : Cond.fieldLink R_Mo 32 "LateRoutesModel" "firsts" "[I" ∈ gq_tbl := gq_m 358 (by decide +kernel) rfl
set_option maxRecDepth 20000 in
theorem wd_21 : Cond.fieldLink R_Mo 35 "LateRoutesModel" "goals" "[I" ∈ gq_tbl := gq_m 359 (by decide +kernel) rfl
set_option maxRecDepth 20000 in
theorem wd_22 : Cond.fieldLink R_Mo 38 "LateRoutesModel" "dues" "[J" ∈ gq_tbl := gq_m 360 (by decide +kernel) rfl
set_option maxRecDepth 20000 in
theorem wd_23 : Cond.fieldLink R_Mo 41 "LateRoutesModel" "weights" "[I" ∈ gq_tbl := gq_m 361 (by decide +kernel) rfl
set_option maxRecDepth 20000 in
theorem wd_24 : Cond.fieldLink R_Mo 44 "LateRoutesModel" "options" "[I" ∈ gq_tbl := gq_m 362 (by decide +kernel) rfl
set_option maxRecDepth 20000 in
theorem wd_25 : Cond.fieldLink R_Mo 47 "LateRoutesModel" "chosen" "[I" ∈ gq_tbl := gq_m 363 (by decide +kernel) rfl
set_option maxRecDepth 20000 in
theorem wd_26 : Cond.fieldLink R_Mo 50 "LateRoutesModel" "kinds" "[I" ∈ gq_tbl := gq_m 364 (by decide +kernel) rfl
set_option maxRecDepth 20000 in
theorem wd_27 : Cond.fieldLink R_Mo 53 "LateRoutesModel" "by" "[I" ∈ gq_tbl := gq_m 365 (by decide +kernel) rfl
set_option maxRecDepth 20000 in
theorem wd_28 : Cond.fieldLink R_Mo 56 "LateRoutesModel" "costs" "[J" ∈ gq_tbl := gq_m 366 (by decide +kernel) rfl
set_option maxRecDepth 20000 in
theorem wd_29 : Cond.fieldLink R_Mo 59 "LateRoutesModel" "came" "[J" ∈ gq_tbl := gq_m 367 (by decide +kernel) rfl
set_option maxRecDepth 20000 in
theorem wd_30 : Cond.arrayClass .boolean ∈ gq_tbl := gq_m 420 (by decide +kernel) rfl
set_option maxRecDepth 20000 in
theorem wd_31 : Cond.fieldLink R_Mo 62 "LateRoutesModel" "left" "[Z" ∈ gq_tbl := gq_m 368 (by decide +kernel) rfl
set_option maxRecDepth 20000 in
theorem wd_32 : Cond.fieldLink R_Mo 66 "LateRoutesModel" "best" "[I" ∈ gq_tbl := gq_m 369 (by decide +kernel) rfl
set_option maxRecDepth 20000 in
theorem wd_33 : Cond.fieldLink R_Mo 69 "LateRoutesModel" "before" "[J" ∈ gq_tbl := gq_m 370 (by decide +kernel) rfl
set_option maxRecDepth 20000 in
theorem wd_34 : Cond.constantLong R_LR 150 9 ∈ gq_tbl := gq_m 42 (by decide +kernel) rfl
set_option maxRecDepth 20000 in
theorem wd_35 : Cond.code y_LR_isWithin b_LR_isWithin 6 (some .boolean) ∈ gq_tbl := gq_m 45 rfl rfl
set_option maxRecDepth 20000 in
theorem wd_36 : Cond.methodLink R_LR 37 y_LR_isWithin ∈ gq_tbl := gq_m 43 (by decide +kernel) rfl
set_option maxRecDepth 20000 in
theorem wd_37 : Cond.static y_LR_isWithin ∈ gq_tbl := gq_m 44 (by decide +kernel) rfl
set_option maxRecDepth 20000 in
theorem wd_38 : Cond.initialized R_LR ∈ gq_tbl := gq_m 1 (by decide +kernel) rfl
set_option maxRecDepth 20000 in
theorem wd_39 : Cond.methodLink R_Li 1 objectInit ∈ gq_tbl := gq_m 51 (by decide +kernel) rfl
set_option maxRecDepth 20000 in
theorem wd_40 : Cond.fieldLink R_Li 7 "LateRoutes$Line" "number" "I" ∈ gq_tbl := gq_m 52 (by decide +kernel) rfl
set_option maxRecDepth 20000 in
theorem wd_41 : Cond.fieldLink R_Li 13 "LateRoutes$Line" "from" "I" ∈ gq_tbl := gq_m 54 (by decide +kernel) rfl
set_option maxRecDepth 20000 in
theorem wd_42 : Cond.fieldLink R_Li 16 "LateRoutes$Line" "to" "I" ∈ gq_tbl := gq_m 56 (by decide +kernel) rfl
set_option maxRecDepth 20000 in
theorem wd_43 : Cond.fieldLink R_Li 19 "LateRoutes$Line" "leaves" "J" ∈ gq_tbl := gq_m 58 (by decide +kernel) rfl
set_option maxRecDepth 20000 in
theorem wd_44 : Cond.fieldLink R_Li 23 "LateRoutes$Line" "arrives" "J" ∈ gq_tbl := gq_m 61 (by decide +kernel) rfl
set_option maxRecDepth 20000 in
theorem wd_45 : Cond.fieldLink R_Li 26 "LateRoutes$Line" "delay" "J" ∈ gq_tbl := gq_m 62 (by decide +kernel) rfl
set_option maxRecDepth 20000 in
theorem wd_46 : Cond.fieldLink R_Li 29 "LateRoutes$Line" "most" "J" ∈ gq_tbl := gq_m 64 (by decide +kernel) rfl
set_option maxRecDepth 20000 in
theorem wd_47 : Cond.fieldLink R_Li 32 "LateRoutes$Line" "departsAt" "J" ∈ gq_tbl := gq_m 66 (by decide +kernel) rfl
set_option maxRecDepth 20000 in
theorem wd_48 : Cond.fieldLink R_Lo 35 "LateRoutes$Load" "picked" "I" ∈ gq_tbl := gq_m 152 (by decide +kernel) rfl
set_option maxRecDepth 20000 in
theorem wd_49 : Cond.fieldLink R_Lo 32 "LateRoutes$Load" "optionCount" "I" ∈ gq_tbl := gq_m 151 (by decide +kernel) rfl
set_option maxRecDepth 20000 in
theorem wd_50 : Cond.fieldLink R_Lo 11 "LateRoutes$Load" "options" "[LLateRoutes$Option;" ∈ gq_tbl := gq_m 150 (by decide +kernel) rfl
set_option maxRecDepth 20000 in
theorem wd_51 : Cond.methodLink R_Li 35 Lib.MathLoose.max_long.x ∈ gq_tbl := gq_m 112 (by decide +kernel) rfl
set_option maxRecDepth 20000 in
theorem wd_52 : Cond.static Lib.MathLoose.max_long.x ∈ gq_tbl := gq_m 113 (by decide +kernel) rfl
set_option maxRecDepth 20000 in
theorem wd_53 : Cond.initialized "java/lang/Math" ∈ gq_tbl := gq_m 4 (by decide +kernel) rfl
set_option maxRecDepth 20000 in
theorem wd_54 : Cond.code Lib.MathLoose.max_long.x Lib.MathLoose.max_long.code 4 (some .long) ∈ gq_tbl := gq_m 114 rfl rfl
set_option maxRecDepth 20000 in
theorem wd_55 : Cond.fieldLink R_Lo 17 "LateRoutes$Load" "first" "LLateRoutes$Line;" ∈ gq_tbl := gq_m 145 (by decide +kernel) rfl
set_option maxRecDepth 20000 in
theorem wd_56 : Cond.code y_Li_arrivesAt b_Li_arrivesAt 1 (some .long) ∈ gq_tbl := gq_m 101 rfl rfl
set_option maxRecDepth 20000 in
theorem wd_57 : Cond.methodLink R_Lo 60 y_Li_arrivesAt ∈ gq_tbl := gq_m 98 (by decide +kernel) rfl
set_option maxRecDepth 20000 in
theorem wd_58 : Cond.instanceMethod y_Li_arrivesAt ∈ gq_tbl := gq_m 99 (by decide +kernel) rfl
set_option maxRecDepth 20000 in
theorem wd_59 : Cond.selects R_Li y_Li_arrivesAt y_Li_arrivesAt ∈ gq_tbl := gq_m 100 (by decide +kernel) rfl
set_option maxRecDepth 20000 in
theorem wd_60 : Cond.initialized R_Li ∈ gq_tbl := gq_m 3 (by decide +kernel) rfl
set_option maxRecDepth 20000 in
theorem wd_61 : Cond.fieldLink R_Lo 64 "LateRoutes$Load" "coming" "J" ∈ gq_tbl := gq_m 155 (by decide +kernel) rfl
set_option maxRecDepth 20000 in
theorem wd_62 : Cond.code y_Lo_pickedOption b_Lo_pickedOption 1 (some (.object "LateRoutes$Option")) ∈ gq_tbl := gq_m 106 rfl rfl
set_option maxRecDepth 20000 in
theorem wd_63 : Cond.methodLink R_Lo 67 y_Lo_pickedOption ∈ gq_tbl := gq_m 102 (by decide +kernel) rfl
set_option maxRecDepth 20000 in
theorem wd_64 : Cond.instanceMethod y_Lo_pickedOption ∈ gq_tbl := gq_m 104 (by decide +kernel) rfl
set_option maxRecDepth 20000 in
theorem wd_65 : Cond.selects R_Lo y_Lo_pickedOption y_Lo_pickedOption ∈ gq_tbl := gq_s 1 (by decide +kernel) rfl
set_option maxRecDepth 20000 in
theorem wd_66 : Cond.initialized R_Lo ∈ gq_tbl := gq_m 5 (by decide +kernel) rfl
set_option maxRecDepth 20000 in
theorem wd_67 : Cond.constantLong R_Lo 74 10 ∈ gq_tbl := gq_m 107 (by decide +kernel) rfl
set_option maxRecDepth 20000 in
theorem wd_68 : Cond.code y_Li_holdUntil b_Li_holdUntil 3 none ∈ gq_tbl := gq_m 111 rfl rfl
set_option maxRecDepth 20000 in
theorem wd_69 : Cond.methodLink R_Lo 76 y_Li_holdUntil ∈ gq_tbl := gq_m 108 (by decide +kernel) rfl
set_option maxRecDepth 20000 in
theorem wd_70 : Cond.instanceMethod y_Li_holdUntil ∈ gq_tbl := gq_m 109 (by decide +kernel) rfl
set_option maxRecDepth 20000 in
theorem wd_71 : Cond.selects R_Li y_Li_holdUntil y_Li_holdUntil ∈ gq_tbl := gq_m 110 (by decide +kernel) rfl
set_option maxRecDepth 20000 in
theorem wd_72 : Cond.fieldLink R_Lo 21 "LateRoutes$Load" "to" "I" ∈ gq_tbl := gq_m 147 (by decide +kernel) rfl
set_option maxRecDepth 20000 in
theorem wd_73 : Cond.fieldLink R_Lo 80 "LateRoutes$Load" "isLeft" "Z" ∈ gq_tbl := gq_m 160 (by decide +kernel) rfl
set_option maxRecDepth 20000 in
theorem wd_74 : Cond.code y_Lo_isDirect b_Lo_isDirect 1 (some .boolean) ∈ gq_tbl := gq_m 122 rfl rfl
set_option maxRecDepth 20000 in
theorem wd_75 : Cond.methodLink R_Lo 84 y_Lo_isDirect ∈ gq_tbl := gq_m 119 (by decide +kernel) rfl
set_option maxRecDepth 20000 in
theorem wd_76 : Cond.instanceMethod y_Lo_isDirect ∈ gq_tbl := gq_m 120 (by decide +kernel) rfl
set_option maxRecDepth 20000 in
theorem wd_77 : Cond.selects R_Lo y_Lo_isDirect y_Lo_isDirect ∈ gq_tbl := gq_m 121 (by decide +kernel) rfl
set_option maxRecDepth 20000 in
theorem wd_78 : Cond.constantLong R_Lo 95 1440 ∈ gq_tbl := gq_m 128 (by decide +kernel) rfl
set_option maxRecDepth 20000 in
theorem wd_79 : Cond.fieldLink R_Lo 87 "LateRoutes$Load" "arrivesAt" "J" ∈ gq_tbl := gq_m 157 (by decide +kernel) rfl
set_option maxRecDepth 20000 in
theorem wd_80 : Cond.code y_Lo_catches b_Lo_catches 2 (some .boolean) ∈ gq_tbl := gq_m 127 rfl rfl
set_option maxRecDepth 20000 in
theorem wd_81 : Cond.methodLink R_Lo 91 y_Lo_catches ∈ gq_tbl := gq_m 124 (by decide +kernel) rfl
set_option maxRecDepth 20000 in
theorem wd_82 : Cond.instanceMethod y_Lo_catches ∈ gq_tbl := gq_m 126 (by decide +kernel) rfl
set_option maxRecDepth 20000 in
theorem wd_83 : Cond.selects R_Lo y_Lo_catches y_Lo_catches ∈ gq_tbl := gq_s 2 (by decide +kernel) rfl
set_option maxRecDepth 20000 in
theorem wd_84 : Cond.constantLong R_Lo 89 60 ∈ gq_tbl := gq_m 123 (by decide +kernel) rfl
set_option maxRecDepth 20000 in
theorem wd_85 : Cond.code y_Li_forgetWaiting b_Li_forgetWaiting 1 none ∈ gq_tbl := gq_m 93 rfl rfl
set_option maxRecDepth 20000 in
theorem wd_86 : Cond.methodLink R_LR 159 y_Li_forgetWaiting ∈ gq_tbl := gq_m 90 (by decide +kernel) rfl
set_option maxRecDepth 20000 in
theorem wd_87 : Cond.instanceMethod y_Li_forgetWaiting ∈ gq_tbl := gq_m 91 (by decide +kernel) rfl
set_option maxRecDepth 20000 in
theorem wd_88 : Cond.selects R_Li y_Li_forgetWaiting y_Li_forgetWaiting ∈ gq_tbl := gq_m 92 (by decide +kernel) rfl
set_option maxRecDepth 20000 in
theorem wd_89 : Cond.code y_Lo_comeAndHold b_Lo_comeAndHold 2 none ∈ gq_tbl := gq_m 97 rfl rfl
set_option maxRecDepth 20000 in
theorem wd_90 : Cond.methodLink R_LR 162 y_Lo_comeAndHold ∈ gq_tbl := gq_m 94 (by decide +kernel) rfl
set_option maxRecDepth 20000 in
theorem wd_91 : Cond.instanceMethod y_Lo_comeAndHold ∈ gq_tbl := gq_m 95 (by decide +kernel) rfl
set_option maxRecDepth 20000 in
theorem wd_92 : Cond.selects R_Lo y_Lo_comeAndHold y_Lo_comeAndHold ∈ gq_tbl := gq_m 96 (by decide +kernel) rfl
set_option maxRecDepth 20000 in
theorem wd_93 : Cond.code y_Lo_arrive b_Lo_arrive 2 none ∈ gq_tbl := gq_m 118 rfl rfl
set_option maxRecDepth 20000 in
theorem wd_94 : Cond.methodLink R_LR 165 y_Lo_arrive ∈ gq_tbl := gq_m 115 (by decide +kernel) rfl
set_option maxRecDepth 20000 in
theorem wd_95 : Cond.instanceMethod y_Lo_arrive ∈ gq_tbl := gq_m 116 (by decide +kernel) rfl
set_option maxRecDepth 20000 in
theorem wd_96 : Cond.selects R_Lo y_Lo_arrive y_Lo_arrive ∈ gq_tbl := gq_m 117 (by decide +kernel) rfl
set_option maxRecDepth 20000 in
theorem wd_97 : Cond.code y_LR_isPlace b_LR_isPlace 1 (some .boolean) ∈ gq_tbl := gq_m 41 rfl rfl
set_option maxRecDepth 20000 in
theorem wd_98 : Cond.methodLink R_LR 31 y_LR_isPlace ∈ gq_tbl := gq_m 39 (by decide +kernel) rfl
set_option maxRecDepth 20000 in
theorem wd_99 : Cond.static y_LR_isPlace ∈ gq_tbl := gq_m 40 (by decide +kernel) rfl
set_option maxRecDepth 20000 in
theorem wd_100 : Cond.constantLong R_LR 35 10000 ∈ gq_tbl := gq_m 46 (by decide +kernel) rfl
set_option maxRecDepth 20000 in
theorem wd_101 : Cond.instantiable R_Li 8 ∈ gq_tbl := gq_m 47 (by decide +kernel) rfl
set_option maxRecDepth 20000 in
theorem wd_102 : Cond.code y_Li_init b_Li_init 8 none ∈ gq_tbl := gq_m 50 rfl rfl
set_option maxRecDepth 20000 in
theorem wd_103 : Cond.methodLink R_LR 41 y_Li_init ∈ gq_tbl := gq_m 48 (by decide +kernel) rfl
set_option maxRecDepth 20000 in
theorem wd_104 : Cond.instanceMethod y_Li_init ∈ gq_tbl := gq_m 49 (by decide +kernel) rfl
set_option maxRecDepth 20000 in
theorem wd_105 : Cond.code y_LR_settle b_LR_settle 2 none ∈ gq_tbl := gq_m 89 rfl rfl
set_option maxRecDepth 20000 in
theorem wd_106 : Cond.methodLink R_LR 44 y_LR_settle ∈ gq_tbl := gq_m 86 (by decide +kernel) rfl
set_option maxRecDepth 20000 in
theorem wd_107 : Cond.instanceMethod y_LR_settle ∈ gq_tbl := gq_m 88 (by decide +kernel) rfl
set_option maxRecDepth 20000 in
theorem wd_108 : Cond.selects R_LR y_LR_settle y_LR_settle ∈ gq_tbl := gq_s 0 (by decide +kernel) rfl
set_option maxRecDepth 20000 in
theorem wd_109 : Cond.fieldLink R_Mo 72 "LateRoutesModel" "thrown" "I" ∈ gq_tbl := gq_m 348 (by decide +kernel) rfl
set_option maxRecDepth 20000 in
theorem wd_110 : Cond.constantLong R_Mo 82 9 ∈ gq_tbl := gq_m 425 (by decide +kernel) rfl
set_option maxRecDepth 20000 in
theorem wd_111 : Cond.code y_Mo_in b_Mo_in 6 (some .boolean) ∈ gq_tbl := gq_m 428 rfl rfl
set_option maxRecDepth 20000 in
theorem wd_112 : Cond.methodLink R_Mo 84 y_Mo_in ∈ gq_tbl := gq_m 426 (by decide +kernel) rfl
set_option maxRecDepth 20000 in
theorem wd_113 : Cond.static y_Mo_in ∈ gq_tbl := gq_m 427 (by decide +kernel) rfl
set_option maxRecDepth 20000 in
theorem wd_114 : Cond.initialized R_Mo ∈ gq_tbl := gq_m 2 (by decide +kernel) rfl
set_option maxRecDepth 20000 in
theorem wd_115 : Cond.constantLong R_Mo 88 10000 ∈ gq_tbl := gq_m 429 (by decide +kernel) rfl
set_option maxRecDepth 20000 in
theorem wd_116 : Cond.fieldLink R_Mo 76 "LateRoutesModel" "lines" "I" ∈ gq_tbl := gq_m 349 (by decide +kernel) rfl
set_option maxRecDepth 20000 in
theorem wd_117 : Cond.methodLink R_Lo 3 objectInit ∈ gq_tbl := gq_m 142 (by decide +kernel) rfl
set_option maxRecDepth 20000 in
theorem wd_118 : Cond.classLink R_Lo 9 R_Op ∈ gq_tbl := gq_m 143 (by decide +kernel) rfl
set_option maxRecDepth 20000 in
theorem wd_119 : Cond.fieldLink R_Lo 25 "LateRoutes$Load" "due" "J" ∈ gq_tbl := gq_m 148 (by decide +kernel) rfl
set_option maxRecDepth 20000 in
theorem wd_120 : Cond.fieldLink R_Lo 29 "LateRoutes$Load" "weight" "I" ∈ gq_tbl := gq_m 149 (by decide +kernel) rfl
set_option maxRecDepth 20000 in
theorem wd_121 : Cond.fieldLink R_Lo 38 "LateRoutes$Load" "keptPick" "I" ∈ gq_tbl := gq_m 154 (by decide +kernel) rfl
set_option maxRecDepth 20000 in
theorem wd_122 : Cond.code y_LR_findLine b_LR_findLine 2 (some (.object "LateRoutes$Line")) ∈ gq_tbl := gq_m 136 rfl rfl
set_option maxRecDepth 20000 in
theorem wd_123 : Cond.methodLink R_LR 47 y_LR_findLine ∈ gq_tbl := gq_m 133 (by decide +kernel) rfl
set_option maxRecDepth 20000 in
theorem wd_124 : Cond.instanceMethod y_LR_findLine ∈ gq_tbl := gq_m 135 (by decide +kernel) rfl
set_option maxRecDepth 20000 in
theorem wd_125 : Cond.selects R_LR y_LR_findLine y_LR_findLine ∈ gq_tbl := gq_s 3 (by decide +kernel) rfl
set_option maxRecDepth 20000 in
theorem wd_126 : Cond.constantLong R_LR 51 20000 ∈ gq_tbl := gq_m 137 (by decide +kernel) rfl
set_option maxRecDepth 20000 in
theorem wd_127 : Cond.constantLong R_LR 53 100 ∈ gq_tbl := gq_m 138 (by decide +kernel) rfl
set_option maxRecDepth 20000 in
theorem wd_128 : Cond.instantiable R_Lo 12 ∈ gq_tbl := gq_m 105 (by decide +kernel) rfl
set_option maxRecDepth 20000 in
theorem wd_129 : Cond.code y_Lo_init b_Lo_init 6 none ∈ gq_tbl := gq_m 141 rfl rfl
set_option maxRecDepth 20000 in
theorem wd_130 : Cond.methodLink R_LR 55 y_Lo_init ∈ gq_tbl := gq_m 139 (by decide +kernel) rfl
set_option maxRecDepth 20000 in
theorem wd_131 : Cond.instanceMethod y_Lo_init ∈ gq_tbl := gq_m 140 (by decide +kernel) rfl
set_option maxRecDepth 20000 in
theorem wd_132 : Cond.code y_LR_fileByLeaving b_LR_fileByLeaving 3 none ∈ gq_tbl := gq_m 189 rfl rfl
set_option maxRecDepth 20000 in
theorem wd_133 : Cond.methodLink R_LR 58 y_LR_fileByLeaving ∈ gq_tbl := gq_m 186 (by decide +kernel) rfl
set_option maxRecDepth 20000 in
theorem wd_134 : Cond.instanceMethod y_LR_fileByLeaving ∈ gq_tbl := gq_m 188 (by decide +kernel) rfl
set_option maxRecDepth 20000 in
theorem wd_135 : Cond.selects R_LR y_LR_fileByLeaving y_LR_fileByLeaving ∈ gq_tbl := gq_s 4 (by decide +kernel) rfl
set_option maxRecDepth 20000 in
theorem wd_136 : Cond.code y_Mo_isLine b_Mo_isLine 2 (some .boolean) ∈ gq_tbl := gq_m 437 rfl rfl
set_option maxRecDepth 20000 in
theorem wd_137 : Cond.methodLink R_Mo 90 y_Mo_isLine ∈ gq_tbl := gq_m 434 (by decide +kernel) rfl
set_option maxRecDepth 20000 in
theorem wd_138 : Cond.instanceMethod y_Mo_isLine ∈ gq_tbl := gq_m 436 (by decide +kernel) rfl
set_option maxRecDepth 20000 in
theorem wd_139 : Cond.selects R_Mo y_Mo_isLine y_Mo_isLine ∈ gq_tbl := gq_s 13 (by decide +kernel) rfl
set_option maxRecDepth 20000 in
theorem wd_140 : Cond.constantLong R_Mo 94 20000 ∈ gq_tbl := gq_m 438 (by decide +kernel) rfl
set_option maxRecDepth 20000 in
theorem wd_141 : Cond.constantLong R_Mo 96 100 ∈ gq_tbl := gq_m 439 (by decide +kernel) rfl
set_option maxRecDepth 20000 in
theorem wd_142 : Cond.fieldLink R_Mo 79 "LateRoutesModel" "loads" "I" ∈ gq_tbl := gq_m 357 (by decide +kernel) rfl
set_option maxRecDepth 20000 in
theorem wd_143 : Cond.methodLink R_Op 1 objectInit ∈ gq_tbl := gq_m 213 (by decide +kernel) rfl
set_option maxRecDepth 20000 in
theorem wd_144 : Cond.fieldLink R_Op 7 "LateRoutes$Option" "kind" "I" ∈ gq_tbl := gq_m 214 (by decide +kernel) rfl
set_option maxRecDepth 20000 in
theorem wd_145 : Cond.fieldLink R_Op 13 "LateRoutes$Option" "onward" "LLateRoutes$Line;" ∈ gq_tbl := gq_m 216 (by decide +kernel) rfl
set_option maxRecDepth 20000 in
theorem wd_146 : Cond.fieldLink R_Op 17 "LateRoutes$Option" "cost" "J" ∈ gq_tbl := gq_m 218 (by decide +kernel) rfl
set_option maxRecDepth 20000 in
theorem wd_147 : Cond.code y_Lo_hasRoom b_Lo_hasRoom 1 (some .boolean) ∈ gq_tbl := gq_m 207 rfl rfl
set_option maxRecDepth 20000 in
theorem wd_148 : Cond.methodLink R_Lo 50 y_Lo_hasRoom ∈ gq_tbl := gq_m 231 (by decide +kernel) rfl
set_option maxRecDepth 20000 in
theorem wd_149 : Cond.instanceMethod y_Lo_hasRoom ∈ gq_tbl := gq_m 205 (by decide +kernel) rfl
set_option maxRecDepth 20000 in
theorem wd_150 : Cond.selects R_Lo y_Lo_hasRoom y_Lo_hasRoom ∈ gq_tbl := gq_m 206 (by decide +kernel) rfl
set_option maxRecDepth 20000 in
theorem wd_151 : Cond.code y_LR_findLoad b_LR_findLoad 2 (some (.object "LateRoutes$Load")) ∈ gq_tbl := gq_m 197 rfl rfl
set_option maxRecDepth 20000 in
theorem wd_152 : Cond.methodLink R_LR 62 y_LR_findLoad ∈ gq_tbl := gq_m 194 (by decide +kernel) rfl
set_option maxRecDepth 20000 in
theorem wd_153 : Cond.instanceMethod y_LR_findLoad ∈ gq_tbl := gq_m 196 (by decide +kernel) rfl
set_option maxRecDepth 20000 in
theorem wd_154 : Cond.selects R_LR y_LR_findLoad y_LR_findLoad ∈ gq_tbl := gq_s 5 (by decide +kernel) rfl
set_option maxRecDepth 20000 in
theorem wd_155 : Cond.constantLong R_LR 66 2 ∈ gq_tbl := gq_m 198 (by decide +kernel) rfl
set_option maxRecDepth 20000 in
theorem wd_156 : Cond.methodLink R_LR 68 y_Lo_isDirect ∈ gq_tbl := gq_m 199 (by decide +kernel) rfl
set_option maxRecDepth 20000 in
theorem wd_157 : Cond.methodLink R_LR 76 y_Lo_hasRoom ∈ gq_tbl := gq_m 204 (by decide +kernel) rfl
set_option maxRecDepth 20000 in
theorem wd_158 : Cond.classLink R_LR 79 R_Op ∈ gq_tbl := gq_m 208 (by decide +kernel) rfl
set_option maxRecDepth 20000 in
theorem wd_159 : Cond.instantiable R_Op 3 ∈ gq_tbl := gq_m 209 (by decide +kernel) rfl
set_option maxRecDepth 20000 in
theorem wd_160 : Cond.initialized R_Op ∈ gq_tbl := gq_m 6 (by decide +kernel) rfl
set_option maxRecDepth 20000 in
theorem wd_161 : Cond.code y_Op_init b_Op_init 5 none ∈ gq_tbl := gq_m 212 rfl rfl
set_option maxRecDepth 20000 in
theorem wd_162 : Cond.methodLink R_LR 81 y_Op_init ∈ gq_tbl := gq_m 210 (by decide +kernel) rfl
set_option maxRecDepth 20000 in
theorem wd_163 : Cond.instanceMethod y_Op_init ∈ gq_tbl := gq_m 211 (by decide +kernel) rfl
set_option maxRecDepth 20000 in
theorem wd_164 : Cond.code y_Lo_addOption b_Lo_addOption 2 (some .int) ∈ gq_tbl := gq_m 230 rfl rfl
set_option maxRecDepth 20000 in
theorem wd_165 : Cond.methodLink R_LR 84 y_Lo_addOption ∈ gq_tbl := gq_m 227 (by decide +kernel) rfl
set_option maxRecDepth 20000 in
theorem wd_166 : Cond.instanceMethod y_Lo_addOption ∈ gq_tbl := gq_m 228 (by decide +kernel) rfl
set_option maxRecDepth 20000 in
theorem wd_167 : Cond.selects R_Lo y_Lo_addOption y_Lo_addOption ∈ gq_tbl := gq_m 229 (by decide +kernel) rfl
set_option maxRecDepth 20000 in
theorem wd_168 : Cond.code y_Lo_canGoOnBy b_Lo_canGoOnBy 2 (some .boolean) ∈ gq_tbl := gq_m 203 rfl rfl
set_option maxRecDepth 20000 in
theorem wd_169 : Cond.methodLink R_LR 72 y_Lo_canGoOnBy ∈ gq_tbl := gq_m 200 (by decide +kernel) rfl
set_option maxRecDepth 20000 in
theorem wd_170 : Cond.instanceMethod y_Lo_canGoOnBy ∈ gq_tbl := gq_m 201 (by decide +kernel) rfl
set_option maxRecDepth 20000 in
theorem wd_171 : Cond.selects R_Lo y_Lo_canGoOnBy y_Lo_canGoOnBy ∈ gq_tbl := gq_m 202 (by decide +kernel) rfl
set_option maxRecDepth 20000 in
theorem wd_172 : Cond.code y_Mo_isLoad b_Mo_isLoad 2 (some .boolean) ∈ gq_tbl := gq_m 447 rfl rfl
set_option maxRecDepth 20000 in
theorem wd_173 : Cond.methodLink R_Mo 98 y_Mo_isLoad ∈ gq_tbl := gq_m 444 (by decide +kernel) rfl
set_option maxRecDepth 20000 in
theorem wd_174 : Cond.instanceMethod y_Mo_isLoad ∈ gq_tbl := gq_m 446 (by decide +kernel) rfl
set_option maxRecDepth 20000 in
theorem wd_175 : Cond.selects R_Mo y_Mo_isLoad y_Mo_isLoad ∈ gq_tbl := gq_s 14 (by decide +kernel) rfl
set_option maxRecDepth 20000 in
theorem wd_176 : Cond.constantLong R_Mo 101 2 ∈ gq_tbl := gq_m 448 (by decide +kernel) rfl
set_option maxRecDepth 20000 in
theorem wd_177 : Cond.code y_Mo_isDirect b_Mo_isDirect 2 (some .boolean) ∈ gq_tbl := gq_m 452 rfl rfl
set_option maxRecDepth 20000 in
theorem wd_178 : Cond.methodLink R_Mo 103 y_Mo_isDirect ∈ gq_tbl := gq_m 449 (by decide +kernel) rfl
set_option maxRecDepth 20000 in
theorem wd_179 : Cond.instanceMethod y_Mo_isDirect ∈ gq_tbl := gq_m 451 (by decide +kernel) rfl
set_option maxRecDepth 20000 in
theorem wd_180 : Cond.selects R_Mo y_Mo_isDirect y_Mo_isDirect ∈ gq_tbl := gq_s 15 (by decide +kernel) rfl
set_option maxRecDepth 20000 in
theorem wd_181 : Cond.constantLong R_LR 88 600 ∈ gq_tbl := gq_m 236 (by decide +kernel) rfl
set_option maxRecDepth 20000 in
theorem wd_182 : Cond.constantLong R_Mo 106 600 ∈ gq_tbl := gq_m 457 (by decide +kernel) rfl
set_option maxRecDepth 20000 in
theorem wd_183 : Cond.methodLink R_Lo 103 Lib.MathLoose.max_long.x ∈ gq_tbl := gq_m 250 (by decide +kernel) rfl
set_option maxRecDepth 20000 in
theorem wd_184 : Cond.code y_Lo_minutesBehind b_Lo_minutesBehind 1 (some .long) ∈ gq_tbl := gq_m 249 rfl rfl
set_option maxRecDepth 20000 in
theorem wd_185 : Cond.methodLink R_LR 168 y_Lo_minutesBehind ∈ gq_tbl := gq_m 246 (by decide +kernel) rfl
set_option maxRecDepth 20000 in
theorem wd_186 : Cond.instanceMethod y_Lo_minutesBehind ∈ gq_tbl := gq_m 247 (by decide +kernel) rfl
set_option maxRecDepth 20000 in
theorem wd_187 : Cond.selects R_Lo y_Lo_minutesBehind y_Lo_minutesBehind ∈ gq_tbl := gq_m 248 (by decide +kernel) rfl
set_option maxRecDepth 20000 in
theorem wd_188 : Cond.constantLong R_LR 94 2000 ∈ gq_tbl := gq_m 241 (by decide +kernel) rfl
set_option maxRecDepth 20000 in
theorem wd_189 : Cond.code y_LR_countFailing b_LR_countFailing 3 (some .int) ∈ gq_tbl := gq_m 245 rfl rfl
set_option maxRecDepth 20000 in
theorem wd_190 : Cond.methodLink R_LR 99 y_LR_countFailing ∈ gq_tbl := gq_m 242 (by decide +kernel) rfl
set_option maxRecDepth 20000 in
theorem wd_191 : Cond.instanceMethod y_LR_countFailing ∈ gq_tbl := gq_m 244 (by decide +kernel) rfl
set_option maxRecDepth 20000 in
theorem wd_192 : Cond.selects R_LR y_LR_countFailing y_LR_countFailing ∈ gq_tbl := gq_s 6 (by decide +kernel) rfl
set_option maxRecDepth 20000 in
theorem wd_193 : Cond.code y_Mo_there b_Mo_there 2 (some .long) ∈ gq_tbl := gq_m 475 rfl rfl
set_option maxRecDepth 20000 in
theorem wd_194 : Cond.methodLink R_Mo 108 y_Mo_there ∈ gq_tbl := gq_m 472 (by decide +kernel) rfl
set_option maxRecDepth 20000 in
theorem wd_195 : Cond.instanceMethod y_Mo_there ∈ gq_tbl := gq_m 474 (by decide +kernel) rfl
set_option maxRecDepth 20000 in
theorem wd_196 : Cond.selects R_Mo y_Mo_there y_Mo_there ∈ gq_tbl := gq_s 18 (by decide +kernel) rfl
set_option maxRecDepth 20000 in
theorem wd_197 : Cond.constantLong R_Mo 112 10 ∈ gq_tbl := gq_m 476 (by decide +kernel) rfl
set_option maxRecDepth 20000 in
theorem wd_198 : Cond.constantLong R_Mo 116 1440 ∈ gq_tbl := gq_m 482 (by decide +kernel) rfl
set_option maxRecDepth 20000 in
theorem wd_199 : Cond.constantLong R_Mo 114 60 ∈ gq_tbl := gq_m 481 (by decide +kernel) rfl
set_option maxRecDepth 20000 in
theorem wd_200 : Cond.constantLong R_Mo 118 (-1) ∈ gq_tbl := gq_m 467 (by decide +kernel) rfl
set_option maxRecDepth 20000 in
theorem wd_201 : Cond.code y_Mo_depart b_Mo_depart 9 none ∈ gq_tbl := gq_m 471 rfl rfl
set_option maxRecDepth 20000 in
theorem wd_202 : Cond.methodLink R_Mo 120 y_Mo_depart ∈ gq_tbl := gq_m 468 (by decide +kernel) rfl
set_option maxRecDepth 20000 in
theorem wd_203 : Cond.instanceMethod y_Mo_depart ∈ gq_tbl := gq_m 470 (by decide +kernel) rfl
set_option maxRecDepth 20000 in
theorem wd_204 : Cond.selects R_Mo y_Mo_depart y_Mo_depart ∈ gq_tbl := gq_s 17 (by decide +kernel) rfl
set_option maxRecDepth 20000 in
theorem wd_205 : Cond.code y_Mo_arrive b_Mo_arrive 6 none ∈ gq_tbl := gq_m 480 rfl rfl
set_option maxRecDepth 20000 in
theorem wd_206 : Cond.methodLink R_Mo 124 y_Mo_arrive ∈ gq_tbl := gq_m 477 (by decide +kernel) rfl
set_option maxRecDepth 20000 in
theorem wd_207 : Cond.instanceMethod y_Mo_arrive ∈ gq_tbl := gq_m 479 (by decide +kernel) rfl
set_option maxRecDepth 20000 in
theorem wd_208 : Cond.selects R_Mo y_Mo_arrive y_Mo_arrive ∈ gq_tbl := gq_s 19 (by decide +kernel) rfl
set_option maxRecDepth 20000 in
theorem wd_209 : Cond.constantLong R_Mo 127 2000 ∈ gq_tbl := gq_m 462 (by decide +kernel) rfl
set_option maxRecDepth 20000 in
theorem wd_210 : Cond.code y_Mo_reckon b_Mo_reckon 8 none ∈ gq_tbl := gq_m 466 rfl rfl
set_option maxRecDepth 20000 in
theorem wd_211 : Cond.methodLink R_Mo 129 y_Mo_reckon ∈ gq_tbl := gq_m 463 (by decide +kernel) rfl
set_option maxRecDepth 20000 in
theorem wd_212 : Cond.instanceMethod y_Mo_reckon ∈ gq_tbl := gq_m 465 (by decide +kernel) rfl
set_option maxRecDepth 20000 in
theorem wd_213 : Cond.selects R_Mo y_Mo_reckon y_Mo_reckon ∈ gq_tbl := gq_s 16 (by decide +kernel) rfl
set_option maxRecDepth 20000 in
theorem wd_214 : Cond.fieldLink R_Lo 100 "LateRoutes$Load" "arrivedBefore" "J" ∈ gq_tbl := gq_m 158 (by decide +kernel) rfl
set_option maxRecDepth 20000 in
theorem wd_215 : Cond.code y_Lo_hasMoved b_Lo_hasMoved 1 (some .boolean) ∈ gq_tbl := gq_m 274 rfl rfl
set_option maxRecDepth 20000 in
theorem wd_216 : Cond.methodLink R_LR 171 y_Lo_hasMoved ∈ gq_tbl := gq_m 271 (by decide +kernel) rfl
set_option maxRecDepth 20000 in
theorem wd_217 : Cond.instanceMethod y_Lo_hasMoved ∈ gq_tbl := gq_m 272 (by decide +kernel) rfl
set_option maxRecDepth 20000 in
theorem wd_218 : Cond.selects R_Lo y_Lo_hasMoved y_Lo_hasMoved ∈ gq_tbl := gq_m 273 (by decide +kernel) rfl
set_option maxRecDepth 20000 in
theorem wd_219 : Cond.code y_LR_countMoved b_LR_countMoved 3 (some .int) ∈ gq_tbl := gq_m 270 rfl rfl
set_option maxRecDepth 20000 in
theorem wd_220 : Cond.methodLink R_LR 112 y_LR_countMoved ∈ gq_tbl := gq_m 267 (by decide +kernel) rfl
set_option maxRecDepth 20000 in
theorem wd_221 : Cond.instanceMethod y_LR_countMoved ∈ gq_tbl := gq_m 269 (by decide +kernel) rfl
set_option maxRecDepth 20000 in
theorem wd_222 : Cond.selects R_LR y_LR_countMoved y_LR_countMoved ∈ gq_tbl := gq_s 7 (by decide +kernel) rfl
set_option maxRecDepth 20000 in
theorem wd_223 : Cond.code y_Lo_rememberArrival b_Lo_rememberArrival 1 none ∈ gq_tbl := gq_m 258 rfl rfl
set_option maxRecDepth 20000 in
theorem wd_224 : Cond.methodLink R_LR 103 y_Lo_rememberArrival ∈ gq_tbl := gq_m 255 (by decide +kernel) rfl
set_option maxRecDepth 20000 in
theorem wd_225 : Cond.instanceMethod y_Lo_rememberArrival ∈ gq_tbl := gq_m 256 (by decide +kernel) rfl
set_option maxRecDepth 20000 in
theorem wd_226 : Cond.selects R_Lo y_Lo_rememberArrival y_Lo_rememberArrival ∈ gq_tbl := gq_m 257 (by decide +kernel) rfl
set_option maxRecDepth 20000 in
theorem wd_227 : Cond.code y_Lo_concerns b_Lo_concerns 4 (some .boolean) ∈ gq_tbl := gq_m 262 rfl rfl
set_option maxRecDepth 20000 in
theorem wd_228 : Cond.methodLink R_LR 106 y_Lo_concerns ∈ gq_tbl := gq_m 259 (by decide +kernel) rfl
set_option maxRecDepth 20000 in
theorem wd_229 : Cond.instanceMethod y_Lo_concerns ∈ gq_tbl := gq_m 260 (by decide +kernel) rfl
set_option maxRecDepth 20000 in
theorem wd_230 : Cond.selects R_Lo y_Lo_concerns y_Lo_concerns ∈ gq_tbl := gq_m 261 (by decide +kernel) rfl
set_option maxRecDepth 20000 in
theorem wd_231 : Cond.code y_Lo_pickFirst b_Lo_pickFirst 1 none ∈ gq_tbl := gq_m 266 rfl rfl
set_option maxRecDepth 20000 in
theorem wd_232 : Cond.methodLink R_LR 109 y_Lo_pickFirst ∈ gq_tbl := gq_m 263 (by decide +kernel) rfl
set_option maxRecDepth 20000 in
theorem wd_233 : Cond.instanceMethod y_Lo_pickFirst ∈ gq_tbl := gq_m 264 (by decide +kernel) rfl
set_option maxRecDepth 20000 in
theorem wd_234 : Cond.selects R_Lo y_Lo_pickFirst y_Lo_pickFirst ∈ gq_tbl := gq_m 265 (by decide +kernel) rfl
set_option maxRecDepth 20000 in
theorem wd_235 : Cond.methodLink R_Lo 109 y_Lo_minutesBehind ∈ gq_tbl := gq_m 288 (by decide +kernel) rfl
set_option maxRecDepth 20000 in
theorem wd_236 : Cond.code y_Lo_harm b_Lo_harm 2 (some .long) ∈ gq_tbl := gq_m 287 rfl rfl
set_option maxRecDepth 20000 in
theorem wd_237 : Cond.methodLink R_LR 177 y_Lo_harm ∈ gq_tbl := gq_m 284 (by decide +kernel) rfl
set_option maxRecDepth 20000 in
theorem wd_238 : Cond.instanceMethod y_Lo_harm ∈ gq_tbl := gq_m 285 (by decide +kernel) rfl
set_option maxRecDepth 20000 in
theorem wd_239 : Cond.selects R_Lo y_Lo_harm y_Lo_harm ∈ gq_tbl := gq_m 286 (by decide +kernel) rfl
set_option maxRecDepth 20000 in
theorem wd_240 : Cond.code y_Lo_isAct b_Lo_isAct 2 (some .boolean) ∈ gq_tbl := gq_m 296 rfl rfl
set_option maxRecDepth 20000 in
theorem wd_241 : Cond.methodLink R_LR 174 y_Lo_isAct ∈ gq_tbl := gq_m 293 (by decide +kernel) rfl
set_option maxRecDepth 20000 in
theorem wd_242 : Cond.instanceMethod y_Lo_isAct ∈ gq_tbl := gq_m 294 (by decide +kernel) rfl
set_option maxRecDepth 20000 in
theorem wd_243 : Cond.selects R_Lo y_Lo_isAct y_Lo_isAct ∈ gq_tbl := gq_m 295 (by decide +kernel) rfl
set_option maxRecDepth 20000 in
theorem wd_244 : Cond.code y_Lo_keepPicked b_Lo_keepPicked 1 none ∈ gq_tbl := gq_m 304 rfl rfl
set_option maxRecDepth 20000 in
theorem wd_245 : Cond.methodLink R_LR 183 y_Lo_keepPicked ∈ gq_tbl := gq_m 301 (by decide +kernel) rfl
set_option maxRecDepth 20000 in
theorem wd_246 : Cond.instanceMethod y_Lo_keepPicked ∈ gq_tbl := gq_m 302 (by decide +kernel) rfl
set_option maxRecDepth 20000 in
theorem wd_247 : Cond.selects R_Lo y_Lo_keepPicked y_Lo_keepPicked ∈ gq_tbl := gq_m 303 (by decide +kernel) rfl
set_option maxRecDepth 20000 in
theorem wd_248 : Cond.code y_Lo_pickNext b_Lo_pickNext 1 (some .boolean) ∈ gq_tbl := gq_m 312 rfl rfl
set_option maxRecDepth 20000 in
theorem wd_249 : Cond.methodLink R_LR 180 y_Lo_pickNext ∈ gq_tbl := gq_m 309 (by decide +kernel) rfl
set_option maxRecDepth 20000 in
theorem wd_250 : Cond.instanceMethod y_Lo_pickNext ∈ gq_tbl := gq_m 310 (by decide +kernel) rfl
set_option maxRecDepth 20000 in
theorem wd_251 : Cond.selects R_Lo y_Lo_pickNext y_Lo_pickNext ∈ gq_tbl := gq_m 311 (by decide +kernel) rfl
set_option maxRecDepth 20000 in
theorem wd_252 : Cond.code y_Lo_takeKept b_Lo_takeKept 1 none ∈ gq_tbl := gq_m 320 rfl rfl
set_option maxRecDepth 20000 in
theorem wd_253 : Cond.methodLink R_LR 186 y_Lo_takeKept ∈ gq_tbl := gq_m 317 (by decide +kernel) rfl
set_option maxRecDepth 20000 in
theorem wd_254 : Cond.instanceMethod y_Lo_takeKept ∈ gq_tbl := gq_m 318 (by decide +kernel) rfl
set_option maxRecDepth 20000 in
theorem wd_255 : Cond.selects R_Lo y_Lo_takeKept y_Lo_takeKept ∈ gq_tbl := gq_m 319 (by decide +kernel) rfl
set_option maxRecDepth 20000 in
theorem wd_256 : Cond.constantLong R_LR 117 9223372036854775807 ∈ gq_tbl := gq_m 279 (by decide +kernel) rfl
set_option maxRecDepth 20000 in
theorem wd_257 : Cond.code y_LR_takeKeptChoice b_LR_takeKeptChoice 2 none ∈ gq_tbl := gq_m 316 rfl rfl
set_option maxRecDepth 20000 in
theorem wd_258 : Cond.methodLink R_LR 132 y_LR_takeKeptChoice ∈ gq_tbl := gq_m 313 (by decide +kernel) rfl
set_option maxRecDepth 20000 in
theorem wd_259 : Cond.instanceMethod y_LR_takeKeptChoice ∈ gq_tbl := gq_m 315 (by decide +kernel) rfl
set_option maxRecDepth 20000 in
theorem wd_260 : Cond.selects R_LR y_LR_takeKeptChoice y_LR_takeKeptChoice ∈ gq_tbl := gq_s 12 (by decide +kernel) rfl
set_option maxRecDepth 20000 in
theorem wd_261 : Cond.code y_LR_sumHarm b_LR_sumHarm 4 (some .long) ∈ gq_tbl := gq_m 283 rfl rfl
set_option maxRecDepth 20000 in
theorem wd_262 : Cond.methodLink R_LR 119 y_LR_sumHarm ∈ gq_tbl := gq_m 280 (by decide +kernel) rfl
set_option maxRecDepth 20000 in
theorem wd_263 : Cond.instanceMethod y_LR_sumHarm ∈ gq_tbl := gq_m 282 (by decide +kernel) rfl
set_option maxRecDepth 20000 in
theorem wd_264 : Cond.selects R_LR y_LR_sumHarm y_LR_sumHarm ∈ gq_tbl := gq_s 8 (by decide +kernel) rfl
set_option maxRecDepth 20000 in
theorem wd_265 : Cond.code y_LR_countActs b_LR_countActs 3 (some .int) ∈ gq_tbl := gq_m 292 rfl rfl
set_option maxRecDepth 20000 in
theorem wd_266 : Cond.methodLink R_LR 123 y_LR_countActs ∈ gq_tbl := gq_m 289 (by decide +kernel) rfl
set_option maxRecDepth 20000 in
theorem wd_267 : Cond.instanceMethod y_LR_countActs ∈ gq_tbl := gq_m 291 (by decide +kernel) rfl
set_option maxRecDepth 20000 in
theorem wd_268 : Cond.selects R_LR y_LR_countActs y_LR_countActs ∈ gq_tbl := gq_s 9 (by decide +kernel) rfl
set_option maxRecDepth 20000 in
theorem wd_269 : Cond.code y_LR_keepChoice b_LR_keepChoice 2 none ∈ gq_tbl := gq_m 300 rfl rfl
set_option maxRecDepth 20000 in
theorem wd_270 : Cond.methodLink R_LR 126 y_LR_keepChoice ∈ gq_tbl := gq_m 297 (by decide +kernel) rfl
set_option maxRecDepth 20000 in
theorem wd_271 : Cond.instanceMethod y_LR_keepChoice ∈ gq_tbl := gq_m 299 (by decide +kernel) rfl
set_option maxRecDepth 20000 in
theorem wd_272 : Cond.selects R_LR y_LR_keepChoice y_LR_keepChoice ∈ gq_tbl := gq_s 10 (by decide +kernel) rfl
set_option maxRecDepth 20000 in
theorem wd_273 : Cond.code y_LR_pickNextChoice b_LR_pickNextChoice 2 (some .boolean) ∈ gq_tbl := gq_m 308 rfl rfl
set_option maxRecDepth 20000 in
theorem wd_274 : Cond.methodLink R_LR 129 y_LR_pickNextChoice ∈ gq_tbl := gq_m 305 (by decide +kernel) rfl
set_option maxRecDepth 20000 in
theorem wd_275 : Cond.instanceMethod y_LR_pickNextChoice ∈ gq_tbl := gq_m 307 (by decide +kernel) rfl
set_option maxRecDepth 20000 in
theorem wd_276 : Cond.selects R_LR y_LR_pickNextChoice y_LR_pickNextChoice ∈ gq_tbl := gq_s 11 (by decide +kernel) rfl
set_option maxRecDepth 20000 in
theorem wd_277 : Cond.code y_Mo_harm b_Mo_harm 4 (some .long) ∈ gq_tbl := gq_m 494 rfl rfl
set_option maxRecDepth 20000 in
theorem wd_278 : Cond.methodLink R_Mo 132 y_Mo_harm ∈ gq_tbl := gq_m 491 (by decide +kernel) rfl
set_option maxRecDepth 20000 in
theorem wd_279 : Cond.instanceMethod y_Mo_harm ∈ gq_tbl := gq_m 493 (by decide +kernel) rfl
set_option maxRecDepth 20000 in
theorem wd_280 : Cond.selects R_Mo y_Mo_harm y_Mo_harm ∈ gq_tbl := gq_s 20 (by decide +kernel) rfl
set_option maxRecDepth 20000 in
theorem wd_281 : Cond.code y_Mo_actsNow b_Mo_actsNow 3 (some .int) ∈ gq_tbl := gq_m 498 rfl rfl
set_option maxRecDepth 20000 in
theorem wd_282 : Cond.methodLink R_Mo 136 y_Mo_actsNow ∈ gq_tbl := gq_m 495 (by decide +kernel) rfl
set_option maxRecDepth 20000 in
theorem wd_283 : Cond.instanceMethod y_Mo_actsNow ∈ gq_tbl := gq_m 497 (by decide +kernel) rfl
set_option maxRecDepth 20000 in
theorem wd_284 : Cond.selects R_Mo y_Mo_actsNow y_Mo_actsNow ∈ gq_tbl := gq_s 21 (by decide +kernel) rfl
set_option maxRecDepth 20000 in
theorem wd_285 : Cond.code y_Mo_next b_Mo_next 2 (some .boolean) ∈ gq_tbl := gq_m 502 rfl rfl
set_option maxRecDepth 20000 in
theorem wd_286 : Cond.methodLink R_Mo 140 y_Mo_next ∈ gq_tbl := gq_m 499 (by decide +kernel) rfl
set_option maxRecDepth 20000 in
theorem wd_287 : Cond.instanceMethod y_Mo_next ∈ gq_tbl := gq_m 501 (by decide +kernel) rfl
set_option maxRecDepth 20000 in
theorem wd_288 : Cond.selects R_Mo y_Mo_next y_Mo_next ∈ gq_tbl := gq_s 22 (by decide +kernel) rfl
set_option maxRecDepth 20000 in
theorem wd_289 : Cond.constantLong R_LR 138 (-11) ∈ gq_tbl := gq_m 329 (by decide +kernel) rfl
set_option maxRecDepth 20000 in
theorem wd_290 : Cond.constantLong R_Mo 144 (-11) ∈ gq_tbl := gq_m 511 (by decide +kernel) rfl
set_option maxRecDepth 20000 in
theorem wd_291 : Cond.classLink R_La 7 R_LR ∈ gq_tbl := gq_m 7 (by decide +kernel) rfl
set_option maxRecDepth 20000 in
theorem wd_292 : Cond.instantiable R_LR 5 ∈ gq_tbl := gq_m 8 (by decide +kernel) rfl
set_option maxRecDepth 20000 in
theorem wd_293 : Cond.code y_LR_init b_LR_init 1 none ∈ gq_tbl := gq_m 11 rfl rfl
set_option maxRecDepth 20000 in
theorem wd_294 : Cond.methodLink R_La 9 y_LR_init ∈ gq_tbl := gq_m 9 (by decide +kernel) rfl
set_option maxRecDepth 20000 in
theorem wd_295 : Cond.instanceMethod y_LR_init ∈ gq_tbl := gq_m 10 (by decide +kernel) rfl
set_option maxRecDepth 20000 in
theorem wd_296 : Cond.classLink R_La 10 R_Mo ∈ gq_tbl := gq_m 342 (by decide +kernel) rfl
set_option maxRecDepth 20000 in
theorem wd_297 : Cond.instantiable R_Mo 23 ∈ gq_tbl := gq_m 343 (by decide +kernel) rfl
set_option maxRecDepth 20000 in
theorem wd_298 : Cond.code y_Mo_init b_Mo_init 1 none ∈ gq_tbl := gq_m 346 rfl rfl
set_option maxRecDepth 20000 in
theorem wd_299 : Cond.methodLink R_La 12 y_Mo_init ∈ gq_tbl := gq_m 344 (by decide +kernel) rfl
set_option maxRecDepth 20000 in
theorem wd_300 : Cond.instanceMethod y_Mo_init ∈ gq_tbl := gq_m 345 (by decide +kernel) rfl
set_option maxRecDepth 20000 in
theorem wd_301 : Cond.constantLong R_La 13 4294967295 ∈ gq_tbl := gq_m 524 (by decide +kernel) rfl
set_option maxRecDepth 20000 in
theorem wd_302 : Cond.code y_LR_line b_LR_line 7 (some .int) ∈ gq_tbl := gq_m 38 rfl rfl
set_option maxRecDepth 20000 in
theorem wd_303 : Cond.methodLink R_La 15 y_LR_line ∈ gq_tbl := gq_m 35 (by decide +kernel) rfl
set_option maxRecDepth 20000 in
theorem wd_304 : Cond.instanceMethod y_LR_line ∈ gq_tbl := gq_m 36 (by decide +kernel) rfl
set_option maxRecDepth 20000 in
theorem wd_305 : Cond.selects R_LR y_LR_line y_LR_line ∈ gq_tbl := gq_m 37 (by decide +kernel) rfl
set_option maxRecDepth 20000 in
theorem wd_306 : Cond.code y_Mo_line b_Mo_line 7 (some .int) ∈ gq_tbl := gq_m 424 rfl rfl
set_option maxRecDepth 20000 in
theorem wd_307 : Cond.methodLink R_La 19 y_Mo_line ∈ gq_tbl := gq_m 421 (by decide +kernel) rfl
set_option maxRecDepth 20000 in
theorem wd_308 : Cond.instanceMethod y_Mo_line ∈ gq_tbl := gq_m 422 (by decide +kernel) rfl
set_option maxRecDepth 20000 in
theorem wd_309 : Cond.selects R_Mo y_Mo_line y_Mo_line ∈ gq_tbl := gq_m 423 (by decide +kernel) rfl
set_option maxRecDepth 20000 in
theorem wd_310 : Cond.code y_LR_load b_LR_load 8 (some .int) ∈ gq_tbl := gq_m 132 rfl rfl
set_option maxRecDepth 20000 in
theorem wd_311 : Cond.methodLink R_La 20 y_LR_load ∈ gq_tbl := gq_m 129 (by decide +kernel) rfl
set_option maxRecDepth 20000 in
theorem wd_312 : Cond.instanceMethod y_LR_load ∈ gq_tbl := gq_m 130 (by decide +kernel) rfl
set_option maxRecDepth 20000 in
theorem wd_313 : Cond.selects R_LR y_LR_load y_LR_load ∈ gq_tbl := gq_m 131 (by decide +kernel) rfl
set_option maxRecDepth 20000 in
theorem wd_314 : Cond.code y_Mo_load b_Mo_load 6 (some .int) ∈ gq_tbl := gq_m 433 rfl rfl
set_option maxRecDepth 20000 in
theorem wd_315 : Cond.methodLink R_La 24 y_Mo_load ∈ gq_tbl := gq_m 430 (by decide +kernel) rfl
set_option maxRecDepth 20000 in
theorem wd_316 : Cond.instanceMethod y_Mo_load ∈ gq_tbl := gq_m 431 (by decide +kernel) rfl
set_option maxRecDepth 20000 in
theorem wd_317 : Cond.selects R_Mo y_Mo_load y_Mo_load ∈ gq_tbl := gq_m 432 (by decide +kernel) rfl
set_option maxRecDepth 20000 in
theorem wd_318 : Cond.code y_LR_option b_LR_option 9 (some .int) ∈ gq_tbl := gq_m 193 rfl rfl
set_option maxRecDepth 20000 in
theorem wd_319 : Cond.methodLink R_La 25 y_LR_option ∈ gq_tbl := gq_m 190 (by decide +kernel) rfl
set_option maxRecDepth 20000 in
theorem wd_320 : Cond.instanceMethod y_LR_option ∈ gq_tbl := gq_m 191 (by decide +kernel) rfl
set_option maxRecDepth 20000 in
theorem wd_321 : Cond.selects R_LR y_LR_option y_LR_option ∈ gq_tbl := gq_m 192 (by decide +kernel) rfl
set_option maxRecDepth 20000 in
theorem wd_322 : Cond.code y_Mo_option b_Mo_option 8 (some .int) ∈ gq_tbl := gq_m 443 rfl rfl
set_option maxRecDepth 20000 in
theorem wd_323 : Cond.methodLink R_La 29 y_Mo_option ∈ gq_tbl := gq_m 440 (by decide +kernel) rfl
set_option maxRecDepth 20000 in
theorem wd_324 : Cond.instanceMethod y_Mo_option ∈ gq_tbl := gq_m 441 (by decide +kernel) rfl
set_option maxRecDepth 20000 in
theorem wd_325 : Cond.selects R_Mo y_Mo_option y_Mo_option ∈ gq_tbl := gq_m 442 (by decide +kernel) rfl
set_option maxRecDepth 20000 in
theorem wd_326 : Cond.code y_LR_waits b_LR_waits 6 (some .int) ∈ gq_tbl := gq_m 235 rfl rfl
set_option maxRecDepth 20000 in
theorem wd_327 : Cond.methodLink R_La 30 y_LR_waits ∈ gq_tbl := gq_m 232 (by decide +kernel) rfl
set_option maxRecDepth 20000 in
theorem wd_328 : Cond.instanceMethod y_LR_waits ∈ gq_tbl := gq_m 233 (by decide +kernel) rfl
set_option maxRecDepth 20000 in
theorem wd_329 : Cond.selects R_LR y_LR_waits y_LR_waits ∈ gq_tbl := gq_m 234 (by decide +kernel) rfl
set_option maxRecDepth 20000 in
theorem wd_330 : Cond.code y_Mo_waits b_Mo_waits 5 (some .int) ∈ gq_tbl := gq_m 456 rfl rfl
set_option maxRecDepth 20000 in
theorem wd_331 : Cond.methodLink R_La 34 y_Mo_waits ∈ gq_tbl := gq_m 453 (by decide +kernel) rfl
set_option maxRecDepth 20000 in
theorem wd_332 : Cond.instanceMethod y_Mo_waits ∈ gq_tbl := gq_m 454 (by decide +kernel) rfl
set_option maxRecDepth 20000 in
theorem wd_333 : Cond.selects R_Mo y_Mo_waits y_Mo_waits ∈ gq_tbl := gq_m 455 (by decide +kernel) rfl
set_option maxRecDepth 20000 in
theorem wd_334 : Cond.code y_LR_late b_LR_late 5 (some .int) ∈ gq_tbl := gq_m 240 rfl rfl
set_option maxRecDepth 20000 in
theorem wd_335 : Cond.methodLink R_La 35 y_LR_late ∈ gq_tbl := gq_m 237 (by decide +kernel) rfl
set_option maxRecDepth 20000 in
theorem wd_336 : Cond.instanceMethod y_LR_late ∈ gq_tbl := gq_m 238 (by decide +kernel) rfl
set_option maxRecDepth 20000 in
theorem wd_337 : Cond.selects R_LR y_LR_late y_LR_late ∈ gq_tbl := gq_m 239 (by decide +kernel) rfl
set_option maxRecDepth 20000 in
theorem wd_338 : Cond.code y_Mo_late b_Mo_late 6 (some .int) ∈ gq_tbl := gq_m 461 rfl rfl
set_option maxRecDepth 20000 in
theorem wd_339 : Cond.methodLink R_La 38 y_Mo_late ∈ gq_tbl := gq_m 458 (by decide +kernel) rfl
set_option maxRecDepth 20000 in
theorem wd_340 : Cond.instanceMethod y_Mo_late ∈ gq_tbl := gq_m 459 (by decide +kernel) rfl
set_option maxRecDepth 20000 in
theorem wd_341 : Cond.selects R_Mo y_Mo_late y_Mo_late ∈ gq_tbl := gq_m 460 (by decide +kernel) rfl
set_option maxRecDepth 20000 in
theorem wd_342 : Cond.code y_LR_tell b_LR_tell 6 (some .int) ∈ gq_tbl := gq_m 254 rfl rfl
set_option maxRecDepth 20000 in
theorem wd_343 : Cond.methodLink R_La 39 y_LR_tell ∈ gq_tbl := gq_m 251 (by decide +kernel) rfl
set_option maxRecDepth 20000 in
theorem wd_344 : Cond.instanceMethod y_LR_tell ∈ gq_tbl := gq_m 252 (by decide +kernel) rfl
set_option maxRecDepth 20000 in
theorem wd_345 : Cond.selects R_LR y_LR_tell y_LR_tell ∈ gq_tbl := gq_m 253 (by decide +kernel) rfl
set_option maxRecDepth 20000 in
theorem wd_346 : Cond.code y_Mo_tell b_Mo_tell 7 (some .int) ∈ gq_tbl := gq_m 486 rfl rfl
set_option maxRecDepth 20000 in
theorem wd_347 : Cond.methodLink R_La 42 y_Mo_tell ∈ gq_tbl := gq_m 483 (by decide +kernel) rfl
set_option maxRecDepth 20000 in
theorem wd_348 : Cond.instanceMethod y_Mo_tell ∈ gq_tbl := gq_m 484 (by decide +kernel) rfl
set_option maxRecDepth 20000 in
theorem wd_349 : Cond.selects R_Mo y_Mo_tell y_Mo_tell ∈ gq_tbl := gq_m 485 (by decide +kernel) rfl
set_option maxRecDepth 20000 in
theorem wd_350 : Cond.code y_LR_solve b_LR_solve 9 (some .long) ∈ gq_tbl := gq_m 278 rfl rfl
set_option maxRecDepth 20000 in
theorem wd_351 : Cond.methodLink R_La 43 y_LR_solve ∈ gq_tbl := gq_m 275 (by decide +kernel) rfl
set_option maxRecDepth 20000 in
theorem wd_352 : Cond.instanceMethod y_LR_solve ∈ gq_tbl := gq_m 276 (by decide +kernel) rfl
set_option maxRecDepth 20000 in
theorem wd_353 : Cond.selects R_LR y_LR_solve y_LR_solve ∈ gq_tbl := gq_m 277 (by decide +kernel) rfl
set_option maxRecDepth 20000 in
theorem wd_354 : Cond.code y_Mo_solve b_Mo_solve 10 (some .long) ∈ gq_tbl := gq_m 490 rfl rfl
set_option maxRecDepth 20000 in
theorem wd_355 : Cond.methodLink R_La 47 y_Mo_solve ∈ gq_tbl := gq_m 487 (by decide +kernel) rfl
set_option maxRecDepth 20000 in
theorem wd_356 : Cond.instanceMethod y_Mo_solve ∈ gq_tbl := gq_m 488 (by decide +kernel) rfl
set_option maxRecDepth 20000 in
theorem wd_357 : Cond.selects R_Mo y_Mo_solve y_Mo_solve ∈ gq_tbl := gq_m 489 (by decide +kernel) rfl
set_option maxRecDepth 20000 in
theorem wd_358 : Cond.code y_LR_chosen b_LR_chosen 3 (some .int) ∈ gq_tbl := gq_m 324 rfl rfl
set_option maxRecDepth 20000 in
theorem wd_359 : Cond.methodLink R_La 48 y_LR_chosen ∈ gq_tbl := gq_m 321 (by decide +kernel) rfl
set_option maxRecDepth 20000 in
theorem wd_360 : Cond.instanceMethod y_LR_chosen ∈ gq_tbl := gq_m 322 (by decide +kernel) rfl
set_option maxRecDepth 20000 in
theorem wd_361 : Cond.selects R_LR y_LR_chosen y_LR_chosen ∈ gq_tbl := gq_m 323 (by decide +kernel) rfl
set_option maxRecDepth 20000 in
theorem wd_362 : Cond.code y_Mo_chosen b_Mo_chosen 2 (some .int) ∈ gq_tbl := gq_m 506 rfl rfl
set_option maxRecDepth 20000 in
theorem wd_363 : Cond.methodLink R_La 52 y_Mo_chosen ∈ gq_tbl := gq_m 503 (by decide +kernel) rfl
set_option maxRecDepth 20000 in
theorem wd_364 : Cond.instanceMethod y_Mo_chosen ∈ gq_tbl := gq_m 504 (by decide +kernel) rfl
set_option maxRecDepth 20000 in
theorem wd_365 : Cond.selects R_Mo y_Mo_chosen y_Mo_chosen ∈ gq_tbl := gq_m 505 (by decide +kernel) rfl
set_option maxRecDepth 20000 in
theorem wd_366 : Cond.code y_LR_arrival b_LR_arrival 3 (some .long) ∈ gq_tbl := gq_m 328 rfl rfl
set_option maxRecDepth 20000 in
theorem wd_367 : Cond.methodLink R_La 53 y_LR_arrival ∈ gq_tbl := gq_m 325 (by decide +kernel) rfl
set_option maxRecDepth 20000 in
theorem wd_368 : Cond.instanceMethod y_LR_arrival ∈ gq_tbl := gq_m 326 (by decide +kernel) rfl
set_option maxRecDepth 20000 in
theorem wd_369 : Cond.selects R_LR y_LR_arrival y_LR_arrival ∈ gq_tbl := gq_m 327 (by decide +kernel) rfl
set_option maxRecDepth 20000 in
theorem wd_370 : Cond.code y_Mo_arrival b_Mo_arrival 2 (some .long) ∈ gq_tbl := gq_m 510 rfl rfl
set_option maxRecDepth 20000 in
theorem wd_371 : Cond.methodLink R_La 57 y_Mo_arrival ∈ gq_tbl := gq_m 507 (by decide +kernel) rfl
set_option maxRecDepth 20000 in
theorem wd_372 : Cond.instanceMethod y_Mo_arrival ∈ gq_tbl := gq_m 508 (by decide +kernel) rfl
set_option maxRecDepth 20000 in
theorem wd_373 : Cond.selects R_Mo y_Mo_arrival y_Mo_arrival ∈ gq_tbl := gq_m 509 (by decide +kernel) rfl
set_option maxRecDepth 20000 in
theorem wd_374 : Cond.code y_LR_departs b_LR_departs 3 (some .long) ∈ gq_tbl := gq_m 333 rfl rfl
set_option maxRecDepth 20000 in
theorem wd_375 : Cond.methodLink R_La 58 y_LR_departs ∈ gq_tbl := gq_m 330 (by decide +kernel) rfl
set_option maxRecDepth 20000 in
theorem wd_376 : Cond.instanceMethod y_LR_departs ∈ gq_tbl := gq_m 331 (by decide +kernel) rfl
set_option maxRecDepth 20000 in
theorem wd_377 : Cond.selects R_LR y_LR_departs y_LR_departs ∈ gq_tbl := gq_m 332 (by decide +kernel) rfl
set_option maxRecDepth 20000 in
theorem wd_378 : Cond.code y_Mo_departs b_Mo_departs 2 (some .long) ∈ gq_tbl := gq_m 515 rfl rfl
set_option maxRecDepth 20000 in
theorem wd_379 : Cond.methodLink R_La 61 y_Mo_departs ∈ gq_tbl := gq_m 512 (by decide +kernel) rfl
set_option maxRecDepth 20000 in
theorem wd_380 : Cond.instanceMethod y_Mo_departs ∈ gq_tbl := gq_m 513 (by decide +kernel) rfl
set_option maxRecDepth 20000 in
theorem wd_381 : Cond.selects R_Mo y_Mo_departs y_Mo_departs ∈ gq_tbl := gq_m 514 (by decide +kernel) rfl
set_option maxRecDepth 20000 in
theorem wd_382 : Cond.code y_LR_none b_LR_none 4 (some .int) ∈ gq_tbl := gq_m 337 rfl rfl
set_option maxRecDepth 20000 in
theorem wd_383 : Cond.methodLink R_La 62 y_LR_none ∈ gq_tbl := gq_m 334 (by decide +kernel) rfl
set_option maxRecDepth 20000 in
theorem wd_384 : Cond.instanceMethod y_LR_none ∈ gq_tbl := gq_m 335 (by decide +kernel) rfl
set_option maxRecDepth 20000 in
theorem wd_385 : Cond.selects R_LR y_LR_none y_LR_none ∈ gq_tbl := gq_m 336 (by decide +kernel) rfl
set_option maxRecDepth 20000 in
theorem wd_386 : Cond.code y_Mo_none b_Mo_none 4 (some .int) ∈ gq_tbl := gq_m 519 rfl rfl
set_option maxRecDepth 20000 in
theorem wd_387 : Cond.methodLink R_La 65 y_Mo_none ∈ gq_tbl := gq_m 516 (by decide +kernel) rfl
set_option maxRecDepth 20000 in
theorem wd_388 : Cond.instanceMethod y_Mo_none ∈ gq_tbl := gq_m 517 (by decide +kernel) rfl
set_option maxRecDepth 20000 in
theorem wd_389 : Cond.selects R_Mo y_Mo_none y_Mo_none ∈ gq_tbl := gq_m 518 (by decide +kernel) rfl
set_option maxRecDepth 20000 in
theorem wd_390 : Cond.code y_LR_acts b_LR_acts 1 (some .int) ∈ gq_tbl := gq_m 341 rfl rfl
set_option maxRecDepth 20000 in
theorem wd_391 : Cond.methodLink R_La 66 y_LR_acts ∈ gq_tbl := gq_m 338 (by decide +kernel) rfl
set_option maxRecDepth 20000 in
theorem wd_392 : Cond.instanceMethod y_LR_acts ∈ gq_tbl := gq_m 339 (by decide +kernel) rfl
set_option maxRecDepth 20000 in
theorem wd_393 : Cond.selects R_LR y_LR_acts y_LR_acts ∈ gq_tbl := gq_m 340 (by decide +kernel) rfl
set_option maxRecDepth 20000 in
theorem wd_394 : Cond.code y_Mo_acts b_Mo_acts 1 (some .int) ∈ gq_tbl := gq_m 523 rfl rfl
set_option maxRecDepth 20000 in
theorem wd_395 : Cond.methodLink R_La 70 y_Mo_acts ∈ gq_tbl := gq_m 520 (by decide +kernel) rfl
set_option maxRecDepth 20000 in
theorem wd_396 : Cond.instanceMethod y_Mo_acts ∈ gq_tbl := gq_m 521 (by decide +kernel) rfl
set_option maxRecDepth 20000 in
theorem wd_397 : Cond.selects R_Mo y_Mo_acts y_Mo_acts ∈ gq_tbl := gq_m 522 (by decide +kernel) rfl
set_option maxRecDepth 20000 in
theorem l_LR_0 : u_lay R_LR T_LR 0 ∈ gq_tbl := gq_m 24 (by decide +kernel) rfl
set_option maxRecDepth 20000 in
theorem l_LR_1 : u_lay R_LR T_LR 1 ∈ gq_tbl := gq_m 26 (by decide +kernel) rfl
set_option maxRecDepth 20000 in
theorem l_LR_2 : u_lay R_LR T_LR 2 ∈ gq_tbl := gq_m 28 (by decide +kernel) rfl
set_option maxRecDepth 20000 in
theorem l_LR_3 : u_lay R_LR T_LR 3 ∈ gq_tbl := gq_m 30 (by decide +kernel) rfl
set_option maxRecDepth 20000 in
theorem l_LR_4 : u_lay R_LR T_LR 4 ∈ gq_tbl := gq_m 32 (by decide +kernel) rfl
theorem i_LR : ∀ w ∈ u_ws R_LR T_LR 5, w ∈ gq_tbl := by
  intro w hw
  obtain ⟨k, hk, rfl⟩ := List.mem_map.mp hw
  have hk := List.mem_range.mp hk
  match k, hk with
  | 0, _ => exact l_LR_0
  | 1, _ => exact l_LR_1
  | 2, _ => exact l_LR_2
  | 3, _ => exact l_LR_3
  | 4, _ => exact l_LR_4
  | k + 5, hk => exact absurd hk (by omega)
set_option maxRecDepth 20000 in
theorem l_Li_0 : u_lay R_Li T_Li 0 ∈ gq_tbl := gq_m 69 (by decide +kernel) rfl
set_option maxRecDepth 20000 in
theorem l_Li_1 : u_lay R_Li T_Li 1 ∈ gq_tbl := gq_m 71 (by decide +kernel) rfl
set_option maxRecDepth 20000 in
theorem l_Li_2 : u_lay R_Li T_Li 2 ∈ gq_tbl := gq_m 73 (by decide +kernel) rfl
set_option maxRecDepth 20000 in
theorem l_Li_3 : u_lay R_Li T_Li 3 ∈ gq_tbl := gq_m 75 (by decide +kernel) rfl
set_option maxRecDepth 20000 in
theorem l_Li_4 : u_lay R_Li T_Li 4 ∈ gq_tbl := gq_m 77 (by decide +kernel) rfl
set_option maxRecDepth 20000 in
theorem l_Li_5 : u_lay R_Li T_Li 5 ∈ gq_tbl := gq_m 79 (by decide +kernel) rfl
set_option maxRecDepth 20000 in
theorem l_Li_6 : u_lay R_Li T_Li 6 ∈ gq_tbl := gq_m 81 (by decide +kernel) rfl
set_option maxRecDepth 20000 in
theorem l_Li_7 : u_lay R_Li T_Li 7 ∈ gq_tbl := gq_m 83 (by decide +kernel) rfl
theorem i_Li : ∀ w ∈ u_ws R_Li T_Li 8, w ∈ gq_tbl := by
  intro w hw
  obtain ⟨k, hk, rfl⟩ := List.mem_map.mp hw
  have hk := List.mem_range.mp hk
  match k, hk with
  | 0, _ => exact l_Li_0
  | 1, _ => exact l_Li_1
  | 2, _ => exact l_Li_2
  | 3, _ => exact l_Li_3
  | 4, _ => exact l_Li_4
  | 5, _ => exact l_Li_5
  | 6, _ => exact l_Li_6
  | 7, _ => exact l_Li_7
  | k + 8, hk => exact absurd hk (by omega)
set_option maxRecDepth 20000 in
theorem l_Op_0 : u_lay R_Op T_Op 0 ∈ gq_tbl := gq_m 220 (by decide +kernel) rfl
set_option maxRecDepth 20000 in
theorem l_Op_1 : u_lay R_Op T_Op 1 ∈ gq_tbl := gq_m 222 (by decide +kernel) rfl
set_option maxRecDepth 20000 in
theorem l_Op_2 : u_lay R_Op T_Op 2 ∈ gq_tbl := gq_m 224 (by decide +kernel) rfl
theorem i_Op : ∀ w ∈ u_ws R_Op T_Op 3, w ∈ gq_tbl := by
  intro w hw
  obtain ⟨k, hk, rfl⟩ := List.mem_map.mp hw
  have hk := List.mem_range.mp hk
  match k, hk with
  | 0, _ => exact l_Op_0
  | 1, _ => exact l_Op_1
  | 2, _ => exact l_Op_2
  | k + 3, hk => exact absurd hk (by omega)
set_option maxRecDepth 20000 in
theorem l_Lo_0 : u_lay R_Lo T_Lo 0 ∈ gq_tbl := gq_m 161 (by decide +kernel) rfl
set_option maxRecDepth 20000 in
theorem l_Lo_1 : u_lay R_Lo T_Lo 1 ∈ gq_tbl := gq_m 163 (by decide +kernel) rfl
set_option maxRecDepth 20000 in
theorem l_Lo_2 : u_lay R_Lo T_Lo 2 ∈ gq_tbl := gq_m 165 (by decide +kernel) rfl
set_option maxRecDepth 20000 in
theorem l_Lo_3 : u_lay R_Lo T_Lo 3 ∈ gq_tbl := gq_m 167 (by decide +kernel) rfl
set_option maxRecDepth 20000 in
theorem l_Lo_4 : u_lay R_Lo T_Lo 4 ∈ gq_tbl := gq_m 169 (by decide +kernel) rfl
set_option maxRecDepth 20000 in
theorem l_Lo_5 : u_lay R_Lo T_Lo 5 ∈ gq_tbl := gq_m 171 (by decide +kernel) rfl
set_option maxRecDepth 20000 in
theorem l_Lo_6 : u_lay R_Lo T_Lo 6 ∈ gq_tbl := gq_m 173 (by decide +kernel) rfl
set_option maxRecDepth 20000 in
theorem l_Lo_7 : u_lay R_Lo T_Lo 7 ∈ gq_tbl := gq_m 175 (by decide +kernel) rfl
set_option maxRecDepth 20000 in
theorem l_Lo_8 : u_lay R_Lo T_Lo 8 ∈ gq_tbl := gq_m 177 (by decide +kernel) rfl
set_option maxRecDepth 20000 in
theorem l_Lo_9 : u_lay R_Lo T_Lo 9 ∈ gq_tbl := gq_m 179 (by decide +kernel) rfl
set_option maxRecDepth 20000 in
theorem l_Lo_10 : u_lay R_Lo T_Lo 10 ∈ gq_tbl := gq_m 181 (by decide +kernel) rfl
set_option maxRecDepth 20000 in
theorem l_Lo_11 : u_lay R_Lo T_Lo 11 ∈ gq_tbl := gq_m 183 (by decide +kernel) rfl
theorem i_Lo : ∀ w ∈ u_ws R_Lo T_Lo 12, w ∈ gq_tbl := by
  intro w hw
  obtain ⟨k, hk, rfl⟩ := List.mem_map.mp hw
  have hk := List.mem_range.mp hk
  match k, hk with
  | 0, _ => exact l_Lo_0
  | 1, _ => exact l_Lo_1
  | 2, _ => exact l_Lo_2
  | 3, _ => exact l_Lo_3
  | 4, _ => exact l_Lo_4
  | 5, _ => exact l_Lo_5
  | 6, _ => exact l_Lo_6
  | 7, _ => exact l_Lo_7
  | 8, _ => exact l_Lo_8
  | 9, _ => exact l_Lo_9
  | 10, _ => exact l_Lo_10
  | 11, _ => exact l_Lo_11
  | k + 12, hk => exact absurd hk (by omega)
set_option maxRecDepth 20000 in
theorem l_Mo_0 : u_lay R_Mo T_Mo 0 ∈ gq_tbl := gq_m 371 (by decide +kernel) rfl
set_option maxRecDepth 20000 in
theorem l_Mo_1 : u_lay R_Mo T_Mo 1 ∈ gq_tbl := gq_m 373 (by decide +kernel) rfl
set_option maxRecDepth 20000 in
theorem l_Mo_2 : u_lay R_Mo T_Mo 2 ∈ gq_tbl := gq_m 375 (by decide +kernel) rfl
set_option maxRecDepth 20000 in
theorem l_Mo_3 : u_lay R_Mo T_Mo 3 ∈ gq_tbl := gq_m 377 (by decide +kernel) rfl
set_option maxRecDepth 20000 in
theorem l_Mo_4 : u_lay R_Mo T_Mo 4 ∈ gq_tbl := gq_m 379 (by decide +kernel) rfl
set_option maxRecDepth 20000 in
theorem l_Mo_5 : u_lay R_Mo T_Mo 5 ∈ gq_tbl := gq_m 381 (by decide +kernel) rfl
set_option maxRecDepth 20000 in
theorem l_Mo_6 : u_lay R_Mo T_Mo 6 ∈ gq_tbl := gq_m 383 (by decide +kernel) rfl
set_option maxRecDepth 20000 in
theorem l_Mo_7 : u_lay R_Mo T_Mo 7 ∈ gq_tbl := gq_m 385 (by decide +kernel) rfl
set_option maxRecDepth 20000 in
theorem l_Mo_8 : u_lay R_Mo T_Mo 8 ∈ gq_tbl := gq_m 387 (by decide +kernel) rfl
set_option maxRecDepth 20000 in
theorem l_Mo_9 : u_lay R_Mo T_Mo 9 ∈ gq_tbl := gq_m 389 (by decide +kernel) rfl
set_option maxRecDepth 20000 in
theorem l_Mo_10 : u_lay R_Mo T_Mo 10 ∈ gq_tbl := gq_m 391 (by decide +kernel) rfl
set_option maxRecDepth 20000 in
theorem l_Mo_11 : u_lay R_Mo T_Mo 11 ∈ gq_tbl := gq_m 393 (by decide +kernel) rfl
set_option maxRecDepth 20000 in
theorem l_Mo_12 : u_lay R_Mo T_Mo 12 ∈ gq_tbl := gq_m 395 (by decide +kernel) rfl
set_option maxRecDepth 20000 in
theorem l_Mo_13 : u_lay R_Mo T_Mo 13 ∈ gq_tbl := gq_m 397 (by decide +kernel) rfl
set_option maxRecDepth 20000 in
theorem l_Mo_14 : u_lay R_Mo T_Mo 14 ∈ gq_tbl := gq_m 399 (by decide +kernel) rfl
set_option maxRecDepth 20000 in
theorem l_Mo_15 : u_lay R_Mo T_Mo 15 ∈ gq_tbl := gq_m 401 (by decide +kernel) rfl
set_option maxRecDepth 20000 in
theorem l_Mo_16 : u_lay R_Mo T_Mo 16 ∈ gq_tbl := gq_m 403 (by decide +kernel) rfl
set_option maxRecDepth 20000 in
theorem l_Mo_17 : u_lay R_Mo T_Mo 17 ∈ gq_tbl := gq_m 405 (by decide +kernel) rfl
set_option maxRecDepth 20000 in
theorem l_Mo_18 : u_lay R_Mo T_Mo 18 ∈ gq_tbl := gq_m 407 (by decide +kernel) rfl
set_option maxRecDepth 20000 in
theorem l_Mo_19 : u_lay R_Mo T_Mo 19 ∈ gq_tbl := gq_m 409 (by decide +kernel) rfl
set_option maxRecDepth 20000 in
theorem l_Mo_20 : u_lay R_Mo T_Mo 20 ∈ gq_tbl := gq_m 411 (by decide +kernel) rfl
set_option maxRecDepth 20000 in
theorem l_Mo_21 : u_lay R_Mo T_Mo 21 ∈ gq_tbl := gq_m 413 (by decide +kernel) rfl
set_option maxRecDepth 20000 in
theorem l_Mo_22 : u_lay R_Mo T_Mo 22 ∈ gq_tbl := gq_m 415 (by decide +kernel) rfl
theorem i_Mo : ∀ w ∈ u_ws R_Mo T_Mo 23, w ∈ gq_tbl := by
  intro w hw
  obtain ⟨k, hk, rfl⟩ := List.mem_map.mp hw
  have hk := List.mem_range.mp hk
  match k, hk with
  | 0, _ => exact l_Mo_0
  | 1, _ => exact l_Mo_1
  | 2, _ => exact l_Mo_2
  | 3, _ => exact l_Mo_3
  | 4, _ => exact l_Mo_4
  | 5, _ => exact l_Mo_5
  | 6, _ => exact l_Mo_6
  | 7, _ => exact l_Mo_7
  | 8, _ => exact l_Mo_8
  | 9, _ => exact l_Mo_9
  | 10, _ => exact l_Mo_10
  | 11, _ => exact l_Mo_11
  | 12, _ => exact l_Mo_12
  | 13, _ => exact l_Mo_13
  | 14, _ => exact l_Mo_14
  | 15, _ => exact l_Mo_15
  | 16, _ => exact l_Mo_16
  | 17, _ => exact l_Mo_17
  | 18, _ => exact l_Mo_18
  | 19, _ => exact l_Mo_19
  | 20, _ => exact l_Mo_20
  | 21, _ => exact l_Mo_21
  | 22, _ => exact l_Mo_22
  | k + 23, hk => exact absurd hk (by omega)
def gq_nw : List Cond := [Cond.arrayOver (.object R_Li), Cond.arrayOver (.object R_Lo), Cond.fieldLinkNest R_Lo 71 "LateRoutes$Option" "kind" "I" "LateRoutes", Cond.fieldLinkNest R_Lo 57 "LateRoutes$Option" "onward" "LLateRoutes$Line;" "LateRoutes", Cond.fieldLinkNest R_Lo 41 "LateRoutes$Line" "to" "I" "LateRoutes", Cond.fieldLinkNest R_Lo 97 "LateRoutes$Line" "departsAt" "J" "LateRoutes", Cond.arrayOver (.object R_Op), Cond.fieldLinkNest R_LR 152 "LateRoutes$Load" "first" "LLateRoutes$Line;" "LateRoutes", Cond.fieldLinkNest R_LR 156 "LateRoutes$Line" "leaves" "J" "LateRoutes", Cond.fieldLinkNest R_Lo 44 "LateRoutes$Line" "from" "I" "LateRoutes", Cond.fieldLinkNest R_Lo 47 "LateRoutes$Line" "leaves" "J" "LateRoutes", Cond.fieldLinkNest R_LR 90 "LateRoutes$Line" "most" "J" "LateRoutes", Cond.fieldLinkNest R_LR 146 "LateRoutes$Load" "isLeft" "Z" "LateRoutes", Cond.fieldLinkNest R_LR 96 "LateRoutes$Line" "delay" "J" "LateRoutes", Cond.fieldLinkNest R_Lo 54 "LateRoutes$Line" "number" "I" "LateRoutes", Cond.fieldLinkNest R_Lo 112 "LateRoutes$Option" "cost" "J" "LateRoutes", Cond.fieldLinkNest R_LR 135 "LateRoutes$Load" "picked" "I" "LateRoutes", Cond.fieldLinkNest R_LR 140 "LateRoutes$Load" "arrivesAt" "J" "LateRoutes", Cond.fieldLinkNest R_LR 143 "LateRoutes$Line" "departsAt" "J" "LateRoutes"]
theorem nw_0 : Cond.arrayOver (.object R_Li) ∈ gq_nw := List.mem_of_getElem? (i := 0) rfl
theorem nw_1 : Cond.arrayOver (.object R_Lo) ∈ gq_nw := List.mem_of_getElem? (i := 1) rfl
theorem nw_2 : Cond.fieldLinkNest R_Lo 71 "LateRoutes$Option" "kind" "I" "LateRoutes" ∈ gq_nw := List.mem_of_getElem? (i := 2) rfl
theorem nw_3 : Cond.fieldLinkNest R_Lo 57 "LateRoutes$Option" "onward" "LLateRoutes$Line;" "LateRoutes" ∈ gq_nw := List.mem_of_getElem? (i := 3) rfl
theorem nw_4 : Cond.fieldLinkNest R_Lo 41 "LateRoutes$Line" "to" "I" "LateRoutes" ∈ gq_nw := List.mem_of_getElem? (i := 4) rfl
theorem nw_5 : Cond.fieldLinkNest R_Lo 97 "LateRoutes$Line" "departsAt" "J" "LateRoutes" ∈ gq_nw := List.mem_of_getElem? (i := 5) rfl
theorem nw_6 : Cond.arrayOver (.object R_Op) ∈ gq_nw := List.mem_of_getElem? (i := 6) rfl
theorem nw_7 : Cond.fieldLinkNest R_LR 152 "LateRoutes$Load" "first" "LLateRoutes$Line;" "LateRoutes" ∈ gq_nw := List.mem_of_getElem? (i := 7) rfl
theorem nw_8 : Cond.fieldLinkNest R_LR 156 "LateRoutes$Line" "leaves" "J" "LateRoutes" ∈ gq_nw := List.mem_of_getElem? (i := 8) rfl
theorem nw_9 : Cond.fieldLinkNest R_Lo 44 "LateRoutes$Line" "from" "I" "LateRoutes" ∈ gq_nw := List.mem_of_getElem? (i := 9) rfl
theorem nw_10 : Cond.fieldLinkNest R_Lo 47 "LateRoutes$Line" "leaves" "J" "LateRoutes" ∈ gq_nw := List.mem_of_getElem? (i := 10) rfl
theorem nw_11 : Cond.fieldLinkNest R_LR 90 "LateRoutes$Line" "most" "J" "LateRoutes" ∈ gq_nw := List.mem_of_getElem? (i := 11) rfl
theorem nw_12 : Cond.fieldLinkNest R_LR 146 "LateRoutes$Load" "isLeft" "Z" "LateRoutes" ∈ gq_nw := List.mem_of_getElem? (i := 12) rfl
theorem nw_13 : Cond.fieldLinkNest R_LR 96 "LateRoutes$Line" "delay" "J" "LateRoutes" ∈ gq_nw := List.mem_of_getElem? (i := 13) rfl
theorem nw_14 : Cond.fieldLinkNest R_Lo 54 "LateRoutes$Line" "number" "I" "LateRoutes" ∈ gq_nw := List.mem_of_getElem? (i := 14) rfl
theorem nw_15 : Cond.fieldLinkNest R_Lo 112 "LateRoutes$Option" "cost" "J" "LateRoutes" ∈ gq_nw := List.mem_of_getElem? (i := 15) rfl
theorem nw_16 : Cond.fieldLinkNest R_LR 135 "LateRoutes$Load" "picked" "I" "LateRoutes" ∈ gq_nw := List.mem_of_getElem? (i := 16) rfl
theorem nw_17 : Cond.fieldLinkNest R_LR 140 "LateRoutes$Load" "arrivesAt" "J" "LateRoutes" ∈ gq_nw := List.mem_of_getElem? (i := 17) rfl
theorem nw_18 : Cond.fieldLinkNest R_LR 143 "LateRoutes$Line" "departsAt" "J" "LateRoutes" ∈ gq_nw := List.mem_of_getElem? (i := 18) rfl
def gq_ni : List Nat := [16, 18, 215, 217, 57, 68, 144, 146, 60, 55, 59, 65, 159, 63, 53, 219, 153, 156, 67]
set_option maxRecDepth 20000 in
theorem gq_nw_in : ∀ w ∈ gq_nw, w ∈ lw_tbl := by
  intro w hw
  have h : gq_nw = gq_ni.filterMap (fun i => tables_1[i]?) := by decide +kernel
  rw [h] at hw
  obtain ⟨i, -, hi⟩ := List.mem_filterMap.mp hw
  exact List.mem_append_right _ (List.mem_of_getElem? hi)
