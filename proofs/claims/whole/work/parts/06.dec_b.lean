theorem d_Op_init_0 : decode b_Op_init 0 = .ok (.aload_n 0, 1) := by decide +kernel
theorem d_Op_init_1 : decode b_Op_init 1 = .ok (.invokespecial 1, 3) := by decide +kernel
theorem d_Op_init_4 : decode b_Op_init 4 = .ok (.aload_n 0, 1) := by decide +kernel
theorem d_Op_init_5 : decode b_Op_init 5 = .ok (.iload_n 1, 1) := by decide +kernel
theorem d_Op_init_6 : decode b_Op_init 6 = .ok (.putfield 7, 3) := by decide +kernel
theorem d_Op_init_9 : decode b_Op_init 9 = .ok (.aload_n 0, 1) := by decide +kernel
theorem d_Op_init_10 : decode b_Op_init 10 = .ok (.aload_n 2, 1) := by decide +kernel
theorem d_Op_init_11 : decode b_Op_init 11 = .ok (.putfield 13, 3) := by decide +kernel
theorem d_Op_init_14 : decode b_Op_init 14 = .ok (.aload_n 0, 1) := by decide +kernel
theorem d_Op_init_15 : decode b_Op_init 15 = .ok (.lload_n 3, 1) := by decide +kernel
theorem d_Op_init_16 : decode b_Op_init 16 = .ok (.putfield 17, 3) := by decide +kernel
theorem d_Op_init_19 : decode b_Op_init 19 = .ok (.return_, 1) := by decide +kernel
