theorem d_Li_init_0 : decode b_Li_init 0 = .ok (.aload_n 0, 1) := by decide +kernel
theorem d_Li_init_1 : decode b_Li_init 1 = .ok (.invokespecial 1, 3) := by decide +kernel
theorem d_Li_init_4 : decode b_Li_init 4 = .ok (.aload_n 0, 1) := by decide +kernel
theorem d_Li_init_5 : decode b_Li_init 5 = .ok (.iload_n 1, 1) := by decide +kernel
theorem d_Li_init_6 : decode b_Li_init 6 = .ok (.putfield 7, 3) := by decide +kernel
theorem d_Li_init_9 : decode b_Li_init 9 = .ok (.aload_n 0, 1) := by decide +kernel
theorem d_Li_init_10 : decode b_Li_init 10 = .ok (.iload_n 2, 1) := by decide +kernel
theorem d_Li_init_11 : decode b_Li_init 11 = .ok (.putfield 13, 3) := by decide +kernel
theorem d_Li_init_14 : decode b_Li_init 14 = .ok (.aload_n 0, 1) := by decide +kernel
theorem d_Li_init_15 : decode b_Li_init 15 = .ok (.iload_n 3, 1) := by decide +kernel
theorem d_Li_init_16 : decode b_Li_init 16 = .ok (.putfield 16, 3) := by decide +kernel
theorem d_Li_init_19 : decode b_Li_init 19 = .ok (.aload_n 0, 1) := by decide +kernel
theorem d_Li_init_20 : decode b_Li_init 20 = .ok (.lload 4, 2) := by decide +kernel
theorem d_Li_init_22 : decode b_Li_init 22 = .ok (.putfield 19, 3) := by decide +kernel
theorem d_Li_init_25 : decode b_Li_init 25 = .ok (.aload_n 0, 1) := by decide +kernel
theorem d_Li_init_26 : decode b_Li_init 26 = .ok (.lload 6, 2) := by decide +kernel
theorem d_Li_init_28 : decode b_Li_init 28 = .ok (.putfield 23, 3) := by decide +kernel
theorem d_Li_init_31 : decode b_Li_init 31 = .ok (.aload_n 0, 1) := by decide +kernel
theorem d_Li_init_32 : decode b_Li_init 32 = .ok (.lconst 0, 1) := by decide +kernel
theorem d_Li_init_33 : decode b_Li_init 33 = .ok (.putfield 26, 3) := by decide +kernel
theorem d_Li_init_36 : decode b_Li_init 36 = .ok (.aload_n 0, 1) := by decide +kernel
theorem d_Li_init_37 : decode b_Li_init 37 = .ok (.lconst 0, 1) := by decide +kernel
theorem d_Li_init_38 : decode b_Li_init 38 = .ok (.putfield 29, 3) := by decide +kernel
theorem d_Li_init_41 : decode b_Li_init 41 = .ok (.aload_n 0, 1) := by decide +kernel
theorem d_Li_init_42 : decode b_Li_init 42 = .ok (.lload 4, 2) := by decide +kernel
theorem d_Li_init_44 : decode b_Li_init 44 = .ok (.putfield 32, 3) := by decide +kernel
theorem d_Li_init_47 : decode b_Li_init 47 = .ok (.return_, 1) := by decide +kernel
theorem d_Li_forgetWaiting_0 : decode b_Li_forgetWaiting 0 = .ok (.aload_n 0, 1) := by decide +kernel
theorem d_Li_forgetWaiting_1 : decode b_Li_forgetWaiting 1 = .ok (.aload_n 0, 1) := by decide +kernel
theorem d_Li_forgetWaiting_2 : decode b_Li_forgetWaiting 2 = .ok (.getfield 19, 3) := by decide +kernel
theorem d_Li_forgetWaiting_5 : decode b_Li_forgetWaiting 5 = .ok (.aload_n 0, 1) := by decide +kernel
theorem d_Li_forgetWaiting_6 : decode b_Li_forgetWaiting 6 = .ok (.getfield 26, 3) := by decide +kernel
theorem d_Li_forgetWaiting_9 : decode b_Li_forgetWaiting 9 = .ok (.ladd, 1) := by decide +kernel
theorem d_Li_forgetWaiting_10 : decode b_Li_forgetWaiting 10 = .ok (.putfield 32, 3) := by decide +kernel
theorem d_Li_forgetWaiting_13 : decode b_Li_forgetWaiting 13 = .ok (.return_, 1) := by decide +kernel
theorem d_Li_arrivesAt_0 : decode b_Li_arrivesAt 0 = .ok (.aload_n 0, 1) := by decide +kernel
theorem d_Li_arrivesAt_1 : decode b_Li_arrivesAt 1 = .ok (.getfield 23, 3) := by decide +kernel
theorem d_Li_arrivesAt_4 : decode b_Li_arrivesAt 4 = .ok (.aload_n 0, 1) := by decide +kernel
theorem d_Li_arrivesAt_5 : decode b_Li_arrivesAt 5 = .ok (.getfield 32, 3) := by decide +kernel
theorem d_Li_arrivesAt_8 : decode b_Li_arrivesAt 8 = .ok (.aload_n 0, 1) := by decide +kernel
theorem d_Li_arrivesAt_9 : decode b_Li_arrivesAt 9 = .ok (.getfield 19, 3) := by decide +kernel
theorem d_Li_arrivesAt_12 : decode b_Li_arrivesAt 12 = .ok (.lsub, 1) := by decide +kernel
theorem d_Li_arrivesAt_13 : decode b_Li_arrivesAt 13 = .ok (.ladd, 1) := by decide +kernel
theorem d_Li_arrivesAt_14 : decode b_Li_arrivesAt 14 = .ok (.lreturn, 1) := by decide +kernel
theorem d_Li_holdUntil_0 : decode b_Li_holdUntil 0 = .ok (.lload_n 1, 1) := by decide +kernel
theorem d_Li_holdUntil_1 : decode b_Li_holdUntil 1 = .ok (.aload_n 0, 1) := by decide +kernel
theorem d_Li_holdUntil_2 : decode b_Li_holdUntil 2 = .ok (.getfield 19, 3) := by decide +kernel
theorem d_Li_holdUntil_5 : decode b_Li_holdUntil 5 = .ok (.aload_n 0, 1) := by decide +kernel
theorem d_Li_holdUntil_6 : decode b_Li_holdUntil 6 = .ok (.getfield 26, 3) := by decide +kernel
theorem d_Li_holdUntil_9 : decode b_Li_holdUntil 9 = .ok (.ladd, 1) := by decide +kernel
theorem d_Li_holdUntil_10 : decode b_Li_holdUntil 10 = .ok (.lsub, 1) := by decide +kernel
theorem d_Li_holdUntil_11 : decode b_Li_holdUntil 11 = .ok (.aload_n 0, 1) := by decide +kernel
theorem d_Li_holdUntil_12 : decode b_Li_holdUntil 12 = .ok (.getfield 29, 3) := by decide +kernel
theorem d_Li_holdUntil_15 : decode b_Li_holdUntil 15 = .ok (.lcmp, 1) := by decide +kernel
theorem d_Li_holdUntil_16 : decode b_Li_holdUntil 16 = .ok (.ifCond .gt 15, 3) := by decide +kernel
theorem d_Li_holdUntil_19 : decode b_Li_holdUntil 19 = .ok (.aload_n 0, 1) := by decide +kernel
theorem d_Li_holdUntil_20 : decode b_Li_holdUntil 20 = .ok (.aload_n 0, 1) := by decide +kernel
theorem d_Li_holdUntil_21 : decode b_Li_holdUntil 21 = .ok (.getfield 32, 3) := by decide +kernel
theorem d_Li_holdUntil_24 : decode b_Li_holdUntil 24 = .ok (.lload_n 1, 1) := by decide +kernel
theorem d_Li_holdUntil_25 : decode b_Li_holdUntil 25 = .ok (.invokestatic 35, 3) := by decide +kernel
theorem d_Li_holdUntil_28 : decode b_Li_holdUntil 28 = .ok (.putfield 32, 3) := by decide +kernel
theorem d_Li_holdUntil_31 : decode b_Li_holdUntil 31 = .ok (.return_, 1) := by decide +kernel
