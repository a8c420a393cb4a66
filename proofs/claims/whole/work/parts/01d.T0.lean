theorem d_T_init_0 : decode b_T_init 0 = .ok (.aload_n 0, 1) := by decide +kernel
theorem d_T_init_1 : decode b_T_init 1 = .ok (.invokespecial 3, 3) := by decide +kernel
theorem d_T_init_4 : decode b_T_init 4 = .ok (.aload_n 0, 1) := by decide +kernel
theorem d_T_init_5 : decode b_T_init 5 = .ok (.iload_n 1, 1) := by decide +kernel
theorem d_T_init_6 : decode b_T_init 6 = .ok (.newarray .int, 2) := by decide +kernel
theorem d_T_init_8 : decode b_T_init 8 = .ok (.putfield 9, 3) := by decide +kernel
theorem d_T_init_11 : decode b_T_init 11 = .ok (.aload_n 0, 1) := by decide +kernel
theorem d_T_init_12 : decode b_T_init 12 = .ok (.iconst 0, 1) := by decide +kernel
theorem d_T_init_13 : decode b_T_init 13 = .ok (.putfield 15, 3) := by decide +kernel
theorem d_T_init_16 : decode b_T_init 16 = .ok (.aload_n 0, 1) := by decide +kernel
theorem d_T_init_17 : decode b_T_init 17 = .ok (.iconst 0, 1) := by decide +kernel
theorem d_T_init_18 : decode b_T_init 18 = .ok (.putfield 19, 3) := by decide +kernel
theorem d_T_init_21 : decode b_T_init 21 = .ok (.return_, 1) := by decide +kernel
theorem d_T_size_0 : decode b_T_size 0 = .ok (.aload_n 0, 1) := by decide +kernel
theorem d_T_size_1 : decode b_T_size 1 = .ok (.getfield 15, 3) := by decide +kernel
theorem d_T_size_4 : decode b_T_size 4 = .ok (.ireturn, 1) := by decide +kernel
theorem d_T_readSoFar_0 : decode b_T_readSoFar 0 = .ok (.aload_n 0, 1) := by decide +kernel
theorem d_T_readSoFar_1 : decode b_T_readSoFar 1 = .ok (.getfield 19, 3) := by decide +kernel
theorem d_T_readSoFar_4 : decode b_T_readSoFar 4 = .ok (.ireturn, 1) := by decide +kernel
theorem d_T_clear_0 : decode b_T_clear 0 = .ok (.aload_n 0, 1) := by decide +kernel
theorem d_T_clear_1 : decode b_T_clear 1 = .ok (.iconst 0, 1) := by decide +kernel
theorem d_T_clear_2 : decode b_T_clear 2 = .ok (.putfield 15, 3) := by decide +kernel
theorem d_T_clear_5 : decode b_T_clear 5 = .ok (.aload_n 0, 1) := by decide +kernel
theorem d_T_clear_6 : decode b_T_clear 6 = .ok (.iconst 0, 1) := by decide +kernel
theorem d_T_clear_7 : decode b_T_clear 7 = .ok (.putfield 19, 3) := by decide +kernel
theorem d_T_clear_10 : decode b_T_clear 10 = .ok (.return_, 1) := by decide +kernel
theorem d_T_rewind_0 : decode b_T_rewind 0 = .ok (.aload_n 0, 1) := by decide +kernel
theorem d_T_rewind_1 : decode b_T_rewind 1 = .ok (.iconst 0, 1) := by decide +kernel
theorem d_T_rewind_2 : decode b_T_rewind 2 = .ok (.putfield 19, 3) := by decide +kernel
theorem d_T_rewind_5 : decode b_T_rewind 5 = .ok (.return_, 1) := by decide +kernel
theorem d_T_append_0 : decode b_T_append 0 = .ok (.iload_n 2, 1) := by decide +kernel
theorem d_T_append_1 : decode b_T_append 1 = .ok (.ifCond .lt 23, 3) := by decide +kernel
theorem d_T_append_4 : decode b_T_append 4 = .ok (.iload_n 2, 1) := by decide +kernel
theorem d_T_append_5 : decode b_T_append 5 = .ok (.bipush 32, 2) := by decide +kernel
theorem d_T_append_7 : decode b_T_append 7 = .ok (.if_icmp .gt 17, 3) := by decide +kernel
theorem d_T_append_10 : decode b_T_append 10 = .ok (.iload_n 2, 1) := by decide +kernel
theorem d_T_append_11 : decode b_T_append 11 = .ok (.aload_n 0, 1) := by decide +kernel
theorem d_T_append_12 : decode b_T_append 12 = .ok (.getfield 9, 3) := by decide +kernel
theorem d_T_append_15 : decode b_T_append 15 = .ok (.arraylength, 1) := by decide +kernel
theorem d_T_append_16 : decode b_T_append 16 = .ok (.aload_n 0, 1) := by decide +kernel
theorem d_T_append_17 : decode b_T_append 17 = .ok (.getfield 15, 3) := by decide +kernel
theorem d_T_append_20 : decode b_T_append 20 = .ok (.isub, 1) := by decide +kernel
theorem d_T_append_21 : decode b_T_append 21 = .ok (.if_icmp .le 5, 3) := by decide +kernel
theorem d_T_append_24 : decode b_T_append 24 = .ok (.iconst 0, 1) := by decide +kernel
theorem d_T_append_25 : decode b_T_append 25 = .ok (.ireturn, 1) := by decide +kernel
theorem d_T_append_26 : decode b_T_append 26 = .ok (.iload_n 2, 1) := by decide +kernel
theorem d_T_append_27 : decode b_T_append 27 = .ok (.iconst 1, 1) := by decide +kernel
theorem d_T_append_28 : decode b_T_append 28 = .ok (.isub, 1) := by decide +kernel
theorem d_T_append_29 : decode b_T_append 29 = .ok (.istore_n 3, 1) := by decide +kernel
theorem d_T_append_30 : decode b_T_append 30 = .ok (.iload_n 3, 1) := by decide +kernel
theorem d_T_append_31 : decode b_T_append 31 = .ok (.ifCond .lt 33, 3) := by decide +kernel
theorem d_T_append_34 : decode b_T_append 34 = .ok (.aload_n 0, 1) := by decide +kernel
theorem d_T_append_35 : decode b_T_append 35 = .ok (.getfield 9, 3) := by decide +kernel
theorem d_T_append_38 : decode b_T_append 38 = .ok (.aload_n 0, 1) := by decide +kernel
theorem d_T_append_39 : decode b_T_append 39 = .ok (.getfield 15, 3) := by decide +kernel
theorem d_T_append_42 : decode b_T_append 42 = .ok (.iload_n 1, 1) := by decide +kernel
theorem d_T_append_43 : decode b_T_append 43 = .ok (.iload_n 3, 1) := by decide +kernel
theorem d_T_append_44 : decode b_T_append 44 = .ok (.iushr, 1) := by decide +kernel
theorem d_T_append_45 : decode b_T_append 45 = .ok (.iconst 1, 1) := by decide +kernel
theorem d_T_append_46 : decode b_T_append 46 = .ok (.iand, 1) := by decide +kernel
theorem d_T_append_47 : decode b_T_append 47 = .ok (.iastore, 1) := by decide +kernel
theorem d_T_append_48 : decode b_T_append 48 = .ok (.aload_n 0, 1) := by decide +kernel
theorem d_T_append_49 : decode b_T_append 49 = .ok (.dup, 1) := by decide +kernel
theorem d_T_append_50 : decode b_T_append 50 = .ok (.getfield 15, 3) := by decide +kernel
theorem d_T_append_53 : decode b_T_append 53 = .ok (.iconst 1, 1) := by decide +kernel
theorem d_T_append_54 : decode b_T_append 54 = .ok (.iadd, 1) := by decide +kernel
theorem d_T_append_55 : decode b_T_append 55 = .ok (.putfield 15, 3) := by decide +kernel
theorem d_T_append_58 : decode b_T_append 58 = .ok (.iinc 3 (-1), 3) := by decide +kernel
theorem d_T_append_61 : decode b_T_append 61 = .ok (.goto (-31), 3) := by decide +kernel
theorem d_T_append_64 : decode b_T_append 64 = .ok (.iconst 1, 1) := by decide +kernel
theorem d_T_append_65 : decode b_T_append 65 = .ok (.ireturn, 1) := by decide +kernel
theorem d_T_readBit_0 : decode b_T_readBit 0 = .ok (.aload_n 0, 1) := by decide +kernel
theorem d_T_readBit_1 : decode b_T_readBit 1 = .ok (.getfield 19, 3) := by decide +kernel
theorem d_T_readBit_4 : decode b_T_readBit 4 = .ok (.aload_n 0, 1) := by decide +kernel
theorem d_T_readBit_5 : decode b_T_readBit 5 = .ok (.getfield 15, 3) := by decide +kernel
theorem d_T_readBit_8 : decode b_T_readBit 8 = .ok (.if_icmp .lt 5, 3) := by decide +kernel
theorem d_T_readBit_11 : decode b_T_readBit 11 = .ok (.iconst (-1), 1) := by decide +kernel
theorem d_T_readBit_12 : decode b_T_readBit 12 = .ok (.ireturn, 1) := by decide +kernel
theorem d_T_readBit_13 : decode b_T_readBit 13 = .ok (.aload_n 0, 1) := by decide +kernel
theorem d_T_readBit_14 : decode b_T_readBit 14 = .ok (.getfield 9, 3) := by decide +kernel
theorem d_T_readBit_17 : decode b_T_readBit 17 = .ok (.aload_n 0, 1) := by decide +kernel
theorem d_T_readBit_18 : decode b_T_readBit 18 = .ok (.getfield 19, 3) := by decide +kernel
theorem d_T_readBit_21 : decode b_T_readBit 21 = .ok (.iaload, 1) := by decide +kernel
theorem d_T_readBit_22 : decode b_T_readBit 22 = .ok (.istore_n 1, 1) := by decide +kernel
theorem d_T_readBit_23 : decode b_T_readBit 23 = .ok (.aload_n 0, 1) := by decide +kernel
theorem d_T_readBit_24 : decode b_T_readBit 24 = .ok (.dup, 1) := by decide +kernel
theorem d_T_readBit_25 : decode b_T_readBit 25 = .ok (.getfield 19, 3) := by decide +kernel
theorem d_T_readBit_28 : decode b_T_readBit 28 = .ok (.iconst 1, 1) := by decide +kernel
theorem d_T_readBit_29 : decode b_T_readBit 29 = .ok (.iadd, 1) := by decide +kernel
theorem d_T_readBit_30 : decode b_T_readBit 30 = .ok (.putfield 19, 3) := by decide +kernel
theorem d_T_readBit_33 : decode b_T_readBit 33 = .ok (.iload_n 1, 1) := by decide +kernel
theorem d_T_readBit_34 : decode b_T_readBit 34 = .ok (.ireturn, 1) := by decide +kernel
theorem d_T_readNumber_0 : decode b_T_readNumber 0 = .ok (.iconst 0, 1) := by decide +kernel
theorem d_T_readNumber_1 : decode b_T_readNumber 1 = .ok (.istore_n 2, 1) := by decide +kernel
theorem d_T_readNumber_2 : decode b_T_readNumber 2 = .ok (.iconst 0, 1) := by decide +kernel
theorem d_T_readNumber_3 : decode b_T_readNumber 3 = .ok (.istore_n 3, 1) := by decide +kernel
theorem d_T_readNumber_4 : decode b_T_readNumber 4 = .ok (.iload_n 3, 1) := by decide +kernel
theorem d_T_readNumber_5 : decode b_T_readNumber 5 = .ok (.iload_n 1, 1) := by decide +kernel
theorem d_T_readNumber_6 : decode b_T_readNumber 6 = .ok (.if_icmp .ge 30, 3) := by decide +kernel
theorem d_T_readNumber_9 : decode b_T_readNumber 9 = .ok (.aload_n 0, 1) := by decide +kernel
theorem d_T_readNumber_10 : decode b_T_readNumber 10 = .ok (.invokevirtual 22, 3) := by decide +kernel
theorem d_T_readNumber_13 : decode b_T_readNumber 13 = .ok (.istore 4, 2) := by decide +kernel
theorem d_T_readNumber_15 : decode b_T_readNumber 15 = .ok (.iload 4, 2) := by decide +kernel
theorem d_T_readNumber_17 : decode b_T_readNumber 17 = .ok (.iconst (-1), 1) := by decide +kernel
theorem d_T_readNumber_18 : decode b_T_readNumber 18 = .ok (.if_icmp .ne 5, 3) := by decide +kernel
theorem d_T_readNumber_21 : decode b_T_readNumber 21 = .ok (.iconst (-1), 1) := by decide +kernel
theorem d_T_readNumber_22 : decode b_T_readNumber 22 = .ok (.ireturn, 1) := by decide +kernel
theorem d_T_readNumber_23 : decode b_T_readNumber 23 = .ok (.iconst 2, 1) := by decide +kernel
theorem d_T_readNumber_24 : decode b_T_readNumber 24 = .ok (.iload_n 2, 1) := by decide +kernel
theorem d_T_readNumber_25 : decode b_T_readNumber 25 = .ok (.imul, 1) := by decide +kernel
theorem d_T_readNumber_26 : decode b_T_readNumber 26 = .ok (.iload 4, 2) := by decide +kernel
theorem d_T_readNumber_28 : decode b_T_readNumber 28 = .ok (.iadd, 1) := by decide +kernel
theorem d_T_readNumber_29 : decode b_T_readNumber 29 = .ok (.istore_n 2, 1) := by decide +kernel
theorem d_T_readNumber_30 : decode b_T_readNumber 30 = .ok (.iinc 3 1, 3) := by decide +kernel
theorem d_T_readNumber_33 : decode b_T_readNumber 33 = .ok (.goto (-29), 3) := by decide +kernel
theorem d_T_readNumber_36 : decode b_T_readNumber 36 = .ok (.iload_n 2, 1) := by decide +kernel
theorem d_T_readNumber_37 : decode b_T_readNumber 37 = .ok (.ireturn, 1) := by decide +kernel
theorem d_T_dropRead_0 : decode b_T_dropRead 0 = .ok (.aload_n 0, 1) := by decide +kernel
theorem d_T_dropRead_1 : decode b_T_dropRead 1 = .ok (.getfield 9, 3) := by decide +kernel
theorem d_T_dropRead_4 : decode b_T_dropRead 4 = .ok (.aload_n 0, 1) := by decide +kernel
theorem d_T_dropRead_5 : decode b_T_dropRead 5 = .ok (.getfield 19, 3) := by decide +kernel
theorem d_T_dropRead_8 : decode b_T_dropRead 8 = .ok (.aload_n 0, 1) := by decide +kernel
theorem d_T_dropRead_9 : decode b_T_dropRead 9 = .ok (.getfield 9, 3) := by decide +kernel
theorem d_T_dropRead_12 : decode b_T_dropRead 12 = .ok (.iconst 0, 1) := by decide +kernel
theorem d_T_dropRead_13 : decode b_T_dropRead 13 = .ok (.aload_n 0, 1) := by decide +kernel
theorem d_T_dropRead_14 : decode b_T_dropRead 14 = .ok (.getfield 15, 3) := by decide +kernel
theorem d_T_dropRead_17 : decode b_T_dropRead 17 = .ok (.aload_n 0, 1) := by decide +kernel
theorem d_T_dropRead_18 : decode b_T_dropRead 18 = .ok (.getfield 19, 3) := by decide +kernel
theorem d_T_dropRead_21 : decode b_T_dropRead 21 = .ok (.isub, 1) := by decide +kernel
theorem d_T_dropRead_22 : decode b_T_dropRead 22 = .ok (.invokestatic 26, 3) := by decide +kernel
theorem d_T_dropRead_25 : decode b_T_dropRead 25 = .ok (.aload_n 0, 1) := by decide +kernel
theorem d_T_dropRead_26 : decode b_T_dropRead 26 = .ok (.dup, 1) := by decide +kernel
theorem d_T_dropRead_27 : decode b_T_dropRead 27 = .ok (.getfield 15, 3) := by decide +kernel
theorem d_T_dropRead_30 : decode b_T_dropRead 30 = .ok (.aload_n 0, 1) := by decide +kernel
theorem d_T_dropRead_31 : decode b_T_dropRead 31 = .ok (.getfield 19, 3) := by decide +kernel
theorem d_T_dropRead_34 : decode b_T_dropRead 34 = .ok (.isub, 1) := by decide +kernel
theorem d_T_dropRead_35 : decode b_T_dropRead 35 = .ok (.putfield 15, 3) := by decide +kernel
theorem d_T_dropRead_38 : decode b_T_dropRead 38 = .ok (.aload_n 0, 1) := by decide +kernel
theorem d_T_dropRead_39 : decode b_T_dropRead 39 = .ok (.iconst 0, 1) := by decide +kernel
theorem d_T_dropRead_40 : decode b_T_dropRead 40 = .ok (.putfield 19, 3) := by decide +kernel
theorem d_T_dropRead_43 : decode b_T_dropRead 43 = .ok (.return_, 1) := by decide +kernel
