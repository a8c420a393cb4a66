theorem d_Y_init_0 : decode b_Y_init 0 = .ok (.aload_n 0, 1) := by decide +kernel
theorem d_Y_init_1 : decode b_Y_init 1 = .ok (.invokespecial 3, 3) := by decide +kernel
theorem d_Y_init_4 : decode b_Y_init 4 = .ok (.return_, 1) := by decide +kernel
theorem d_Y_clear_0 : decode b_Y_clear 0 = .ok (.aload_n 0, 1) := by decide +kernel
theorem d_Y_clear_1 : decode b_Y_clear 1 = .ok (.iconst 0, 1) := by decide +kernel
theorem d_Y_clear_2 : decode b_Y_clear 2 = .ok (.putfield 9, 3) := by decide +kernel
theorem d_Y_clear_5 : decode b_Y_clear 5 = .ok (.aload_n 0, 1) := by decide +kernel
theorem d_Y_clear_6 : decode b_Y_clear 6 = .ok (.iconst 0, 1) := by decide +kernel
theorem d_Y_clear_7 : decode b_Y_clear 7 = .ok (.putfield 15, 3) := by decide +kernel
theorem d_Y_clear_10 : decode b_Y_clear 10 = .ok (.aload_n 0, 1) := by decide +kernel
theorem d_Y_clear_11 : decode b_Y_clear 11 = .ok (.iconst 0, 1) := by decide +kernel
theorem d_Y_clear_12 : decode b_Y_clear 12 = .ok (.putfield 18, 3) := by decide +kernel
theorem d_Y_clear_15 : decode b_Y_clear 15 = .ok (.aload_n 0, 1) := by decide +kernel
theorem d_Y_clear_16 : decode b_Y_clear 16 = .ok (.bipush 13, 2) := by decide +kernel
theorem d_Y_clear_18 : decode b_Y_clear 18 = .ok (.putfield 21, 3) := by decide +kernel
theorem d_Y_clear_21 : decode b_Y_clear 21 = .ok (.return_, 1) := by decide +kernel
theorem d_Y_add_0 : decode b_Y_add 0 = .ok (.aload_n 0, 1) := by decide +kernel
theorem d_Y_add_1 : decode b_Y_add 1 = .ok (.dup, 1) := by decide +kernel
theorem d_Y_add_2 : decode b_Y_add 2 = .ok (.getfield 18, 3) := by decide +kernel
theorem d_Y_add_5 : decode b_Y_add 5 = .ok (.iload_n 3, 1) := by decide +kernel
theorem d_Y_add_6 : decode b_Y_add 6 = .ok (.iload 4, 2) := by decide +kernel
theorem d_Y_add_8 : decode b_Y_add 8 = .ok (.imul, 1) := by decide +kernel
theorem d_Y_add_9 : decode b_Y_add 9 = .ok (.iadd, 1) := by decide +kernel
theorem d_Y_add_10 : decode b_Y_add 10 = .ok (.putfield 18, 3) := by decide +kernel
theorem d_Y_add_13 : decode b_Y_add 13 = .ok (.iload_n 1, 1) := by decide +kernel
theorem d_Y_add_14 : decode b_Y_add 14 = .ok (.iconst (-1), 1) := by decide +kernel
theorem d_Y_add_15 : decode b_Y_add 15 = .ok (.if_icmp .ne 17, 3) := by decide +kernel
theorem d_Y_add_18 : decode b_Y_add 18 = .ok (.aload_n 0, 1) := by decide +kernel
theorem d_Y_add_19 : decode b_Y_add 19 = .ok (.dup, 1) := by decide +kernel
theorem d_Y_add_20 : decode b_Y_add 20 = .ok (.getfield 15, 3) := by decide +kernel
theorem d_Y_add_23 : decode b_Y_add 23 = .ok (.iload 4, 2) := by decide +kernel
theorem d_Y_add_25 : decode b_Y_add 25 = .ok (.iadd, 1) := by decide +kernel
theorem d_Y_add_26 : decode b_Y_add 26 = .ok (.putfield 15, 3) := by decide +kernel
theorem d_Y_add_29 : decode b_Y_add 29 = .ok (.goto 31, 3) := by decide +kernel
theorem d_Y_add_32 : decode b_Y_add 32 = .ok (.iload_n 1, 1) := by decide +kernel
theorem d_Y_add_33 : decode b_Y_add 33 = .ok (.iload_n 2, 1) := by decide +kernel
theorem d_Y_add_34 : decode b_Y_add 34 = .ok (.if_icmp .ne 26, 3) := by decide +kernel
theorem d_Y_add_37 : decode b_Y_add 37 = .ok (.aload_n 0, 1) := by decide +kernel
theorem d_Y_add_38 : decode b_Y_add 38 = .ok (.dup, 1) := by decide +kernel
theorem d_Y_add_39 : decode b_Y_add 39 = .ok (.getfield 9, 3) := by decide +kernel
theorem d_Y_add_42 : decode b_Y_add 42 = .ok (.iload 4, 2) := by decide +kernel
theorem d_Y_add_44 : decode b_Y_add 44 = .ok (.iadd, 1) := by decide +kernel
theorem d_Y_add_45 : decode b_Y_add 45 = .ok (.putfield 9, 3) := by decide +kernel
theorem d_Y_add_48 : decode b_Y_add 48 = .ok (.aload_n 0, 1) := by decide +kernel
theorem d_Y_add_49 : decode b_Y_add 49 = .ok (.aload_n 0, 1) := by decide +kernel
theorem d_Y_add_50 : decode b_Y_add 50 = .ok (.getfield 21, 3) := by decide +kernel
theorem d_Y_add_53 : decode b_Y_add 53 = .ok (.iload_n 3, 1) := by decide +kernel
theorem d_Y_add_54 : decode b_Y_add 54 = .ok (.invokestatic 24, 3) := by decide +kernel
theorem d_Y_add_57 : decode b_Y_add 57 = .ok (.putfield 21, 3) := by decide +kernel
theorem d_Y_add_60 : decode b_Y_add 60 = .ok (.return_, 1) := by decide +kernel
