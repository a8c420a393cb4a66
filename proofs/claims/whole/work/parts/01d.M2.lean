theorem d_M_first_2 : decode b_M_first 2 = .ok (.iload_n 2, 1) := by decide +kernel
theorem d_M_first_3 : decode b_M_first 3 = .ok (.iload_n 3, 1) := by decide +kernel
theorem d_M_first_4 : decode b_M_first 4 = .ok (.invokevirtual 63, 3) := by decide +kernel
theorem d_M_first_7 : decode b_M_first 7 = .ok (.ifCond .ne 5, 3) := by decide +kernel
theorem d_M_first_10 : decode b_M_first 10 = .ok (.iconst (-1), 1) := by decide +kernel
theorem d_M_first_11 : decode b_M_first 11 = .ok (.ireturn, 1) := by decide +kernel
theorem d_M_first_12 : decode b_M_first 12 = .ok (.iconst 0, 1) := by decide +kernel
theorem d_M_first_13 : decode b_M_first 13 = .ok (.istore 5, 2) := by decide +kernel
theorem d_M_first_15 : decode b_M_first 15 = .ok (.iload 5, 2) := by decide +kernel
theorem d_M_first_17 : decode b_M_first 17 = .ok (.bipush 12, 2) := by decide +kernel
theorem d_M_first_19 : decode b_M_first 19 = .ok (.if_icmp .gt 30, 3) := by decide +kernel
theorem d_M_first_22 : decode b_M_first 22 = .ok (.aload_n 0, 1) := by decide +kernel
theorem d_M_first_23 : decode b_M_first 23 = .ok (.iload_n 1, 1) := by decide +kernel
theorem d_M_first_24 : decode b_M_first 24 = .ok (.iload_n 2, 1) := by decide +kernel
theorem d_M_first_25 : decode b_M_first 25 = .ok (.iload_n 3, 1) := by decide +kernel
theorem d_M_first_26 : decode b_M_first 26 = .ok (.iload 5, 2) := by decide +kernel
theorem d_M_first_28 : decode b_M_first 28 = .ok (.iload 4, 2) := by decide +kernel
theorem d_M_first_30 : decode b_M_first 30 = .ok (.invokevirtual 87, 3) := by decide +kernel
theorem d_M_first_33 : decode b_M_first 33 = .ok (.aload_n 0, 1) := by decide +kernel
theorem d_M_first_34 : decode b_M_first 34 = .ok (.getfield 74, 3) := by decide +kernel
theorem d_M_first_37 : decode b_M_first 37 = .ok (.ifCond .le 6, 3) := by decide +kernel
theorem d_M_first_40 : decode b_M_first 40 = .ok (.iload 5, 2) := by decide +kernel
theorem d_M_first_42 : decode b_M_first 42 = .ok (.ireturn, 1) := by decide +kernel
theorem d_M_first_43 : decode b_M_first 43 = .ok (.iinc 5 1, 3) := by decide +kernel
theorem d_M_first_46 : decode b_M_first 46 = .ok (.goto (-31), 3) := by decide +kernel
theorem d_M_first_49 : decode b_M_first 49 = .ok (.bipush 13, 2) := by decide +kernel
theorem d_M_first_51 : decode b_M_first 51 = .ok (.ireturn, 1) := by decide +kernel
