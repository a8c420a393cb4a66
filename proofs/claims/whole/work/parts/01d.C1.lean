theorem d_C_plain_5 : decode b_C_plain 5 = .ok (.iconst 0, 1) := by decide +kernel
theorem d_C_plain_6 : decode b_C_plain 6 = .ok (.istore_n 3, 1) := by decide +kernel
theorem d_C_plain_7 : decode b_C_plain 7 = .ok (.iload_n 3, 1) := by decide +kernel
theorem d_C_plain_8 : decode b_C_plain 8 = .ok (.sipush 256, 3) := by decide +kernel
theorem d_C_plain_11 : decode b_C_plain 11 = .ok (.if_icmp .gt 31, 3) := by decide +kernel
theorem d_C_plain_14 : decode b_C_plain 14 = .ok (.aload_n 0, 1) := by decide +kernel
theorem d_C_plain_15 : decode b_C_plain 15 = .ok (.iload_n 2, 1) := by decide +kernel
theorem d_C_plain_16 : decode b_C_plain 16 = .ok (.invokevirtual 135, 3) := by decide +kernel
theorem d_C_plain_19 : decode b_C_plain 19 = .ok (.istore 4, 2) := by decide +kernel
theorem d_C_plain_21 : decode b_C_plain 21 = .ok (.iload 4, 2) := by decide +kernel
theorem d_C_plain_23 : decode b_C_plain 23 = .ok (.iconst (-1), 1) := by decide +kernel
theorem d_C_plain_24 : decode b_C_plain 24 = .ok (.if_icmp .eq 9, 3) := by decide +kernel
theorem d_C_plain_27 : decode b_C_plain 27 = .ok (.iload 4, 2) := by decide +kernel
theorem d_C_plain_29 : decode b_C_plain 29 = .ok (.iload_n 1, 1) := by decide +kernel
theorem d_C_plain_30 : decode b_C_plain 30 = .ok (.if_icmp .ge 6, 3) := by decide +kernel
theorem d_C_plain_33 : decode b_C_plain 33 = .ok (.iload 4, 2) := by decide +kernel
theorem d_C_plain_35 : decode b_C_plain 35 = .ok (.ireturn, 1) := by decide +kernel
theorem d_C_plain_36 : decode b_C_plain 36 = .ok (.iinc 3 1, 3) := by decide +kernel
theorem d_C_plain_39 : decode b_C_plain 39 = .ok (.goto (-32), 3) := by decide +kernel
theorem d_C_plain_42 : decode b_C_plain 42 = .ok (.iconst (-1), 1) := by decide +kernel
theorem d_C_plain_43 : decode b_C_plain 43 = .ok (.ireturn, 1) := by decide +kernel
theorem d_C_bitsFor_0 : decode b_C_bitsFor 0 = .ok (.iconst 0, 1) := by decide +kernel
theorem d_C_bitsFor_1 : decode b_C_bitsFor 1 = .ok (.istore_n 1, 1) := by decide +kernel
theorem d_C_bitsFor_2 : decode b_C_bitsFor 2 = .ok (.iload_n 1, 1) := by decide +kernel
theorem d_C_bitsFor_3 : decode b_C_bitsFor 3 = .ok (.bipush 6, 2) := by decide +kernel
theorem d_C_bitsFor_5 : decode b_C_bitsFor 5 = .ok (.if_icmp .ge 16, 3) := by decide +kernel
theorem d_C_bitsFor_8 : decode b_C_bitsFor 8 = .ok (.iconst 1, 1) := by decide +kernel
theorem d_C_bitsFor_9 : decode b_C_bitsFor 9 = .ok (.iload_n 1, 1) := by decide +kernel
theorem d_C_bitsFor_10 : decode b_C_bitsFor 10 = .ok (.ishl, 1) := by decide +kernel
theorem d_C_bitsFor_11 : decode b_C_bitsFor 11 = .ok (.iload_n 0, 1) := by decide +kernel
theorem d_C_bitsFor_12 : decode b_C_bitsFor 12 = .ok (.if_icmp .ge 9, 3) := by decide +kernel
theorem d_C_bitsFor_15 : decode b_C_bitsFor 15 = .ok (.iinc 1 1, 3) := by decide +kernel
theorem d_C_bitsFor_18 : decode b_C_bitsFor 18 = .ok (.goto (-16), 3) := by decide +kernel
theorem d_C_bitsFor_21 : decode b_C_bitsFor 21 = .ok (.iload_n 1, 1) := by decide +kernel
theorem d_C_bitsFor_22 : decode b_C_bitsFor 22 = .ok (.ireturn, 1) := by decide +kernel
theorem d_C_thrifty_0 : decode b_C_thrifty 0 = .ok (.iconst 1, 1) := by decide +kernel
theorem d_C_thrifty_1 : decode b_C_thrifty 1 = .ok (.istore_n 2, 1) := by decide +kernel
theorem d_C_thrifty_2 : decode b_C_thrifty 2 = .ok (.iconst 0, 1) := by decide +kernel
theorem d_C_thrifty_3 : decode b_C_thrifty 3 = .ok (.istore_n 3, 1) := by decide +kernel
theorem d_C_thrifty_4 : decode b_C_thrifty 4 = .ok (.iconst 0, 1) := by decide +kernel
theorem d_C_thrifty_5 : decode b_C_thrifty 5 = .ok (.istore 4, 2) := by decide +kernel
theorem d_C_thrifty_7 : decode b_C_thrifty 7 = .ok (.iload 4, 2) := by decide +kernel
theorem d_C_thrifty_9 : decode b_C_thrifty 9 = .ok (.sipush 256, 3) := by decide +kernel
theorem d_C_thrifty_12 : decode b_C_thrifty 12 = .ok (.if_icmp .gt 54, 3) := by decide +kernel
theorem d_C_thrifty_15 : decode b_C_thrifty 15 = .ok (.iload_n 2, 1) := by decide +kernel
theorem d_C_thrifty_16 : decode b_C_thrifty 16 = .ok (.iload_n 1, 1) := by decide +kernel
theorem d_C_thrifty_17 : decode b_C_thrifty 17 = .ok (.if_icmp .lt 18, 3) := by decide +kernel
theorem d_C_thrifty_20 : decode b_C_thrifty 20 = .ok (.iload_n 3, 1) := by decide +kernel
theorem d_C_thrifty_21 : decode b_C_thrifty 21 = .ok (.iload_n 1, 1) := by decide +kernel
theorem d_C_thrifty_22 : decode b_C_thrifty 22 = .ok (.if_icmp .ge 5, 3) := by decide +kernel
theorem d_C_thrifty_25 : decode b_C_thrifty 25 = .ok (.iload_n 3, 1) := by decide +kernel
theorem d_C_thrifty_26 : decode b_C_thrifty 26 = .ok (.ireturn, 1) := by decide +kernel
theorem d_C_thrifty_27 : decode b_C_thrifty 27 = .ok (.iload_n 2, 1) := by decide +kernel
theorem d_C_thrifty_28 : decode b_C_thrifty 28 = .ok (.iload_n 1, 1) := by decide +kernel
theorem d_C_thrifty_29 : decode b_C_thrifty 29 = .ok (.isub, 1) := by decide +kernel
theorem d_C_thrifty_30 : decode b_C_thrifty 30 = .ok (.istore_n 2, 1) := by decide +kernel
theorem d_C_thrifty_31 : decode b_C_thrifty 31 = .ok (.iload_n 3, 1) := by decide +kernel
theorem d_C_thrifty_32 : decode b_C_thrifty 32 = .ok (.iload_n 1, 1) := by decide +kernel
theorem d_C_thrifty_33 : decode b_C_thrifty 33 = .ok (.isub, 1) := by decide +kernel
theorem d_C_thrifty_34 : decode b_C_thrifty 34 = .ok (.istore_n 3, 1) := by decide +kernel
theorem d_C_thrifty_35 : decode b_C_thrifty 35 = .ok (.aload_n 0, 1) := by decide +kernel
theorem d_C_thrifty_36 : decode b_C_thrifty 36 = .ok (.invokevirtual 138, 3) := by decide +kernel
theorem d_C_thrifty_39 : decode b_C_thrifty 39 = .ok (.istore 5, 2) := by decide +kernel
theorem d_C_thrifty_41 : decode b_C_thrifty 41 = .ok (.iload 5, 2) := by decide +kernel
theorem d_C_thrifty_43 : decode b_C_thrifty 43 = .ok (.iconst (-1), 1) := by decide +kernel
theorem d_C_thrifty_44 : decode b_C_thrifty 44 = .ok (.if_icmp .ne 5, 3) := by decide +kernel
theorem d_C_thrifty_47 : decode b_C_thrifty 47 = .ok (.iconst (-1), 1) := by decide +kernel
theorem d_C_thrifty_48 : decode b_C_thrifty 48 = .ok (.ireturn, 1) := by decide +kernel
theorem d_C_thrifty_49 : decode b_C_thrifty 49 = .ok (.iconst 2, 1) := by decide +kernel
theorem d_C_thrifty_50 : decode b_C_thrifty 50 = .ok (.iload_n 2, 1) := by decide +kernel
theorem d_C_thrifty_51 : decode b_C_thrifty 51 = .ok (.imul, 1) := by decide +kernel
theorem d_C_thrifty_52 : decode b_C_thrifty 52 = .ok (.istore_n 2, 1) := by decide +kernel
theorem d_C_thrifty_53 : decode b_C_thrifty 53 = .ok (.iconst 2, 1) := by decide +kernel
theorem d_C_thrifty_54 : decode b_C_thrifty 54 = .ok (.iload_n 3, 1) := by decide +kernel
theorem d_C_thrifty_55 : decode b_C_thrifty 55 = .ok (.imul, 1) := by decide +kernel
theorem d_C_thrifty_56 : decode b_C_thrifty 56 = .ok (.iload 5, 2) := by decide +kernel
theorem d_C_thrifty_58 : decode b_C_thrifty 58 = .ok (.iadd, 1) := by decide +kernel
theorem d_C_thrifty_59 : decode b_C_thrifty 59 = .ok (.istore_n 3, 1) := by decide +kernel
theorem d_C_thrifty_60 : decode b_C_thrifty 60 = .ok (.iinc 4 1, 3) := by decide +kernel
theorem d_C_thrifty_63 : decode b_C_thrifty 63 = .ok (.goto (-56), 3) := by decide +kernel
theorem d_C_thrifty_66 : decode b_C_thrifty 66 = .ok (.iconst (-1), 1) := by decide +kernel
theorem d_C_thrifty_67 : decode b_C_thrifty 67 = .ok (.ireturn, 1) := by decide +kernel
theorem d_C_coin_0 : decode b_C_coin 0 = .ok (.iload_n 1, 1) := by decide +kernel
theorem d_C_coin_1 : decode b_C_coin 1 = .ok (.istore_n 3, 1) := by decide +kernel
theorem d_C_coin_2 : decode b_C_coin 2 = .ok (.iconst 0, 1) := by decide +kernel
theorem d_C_coin_3 : decode b_C_coin 3 = .ok (.istore 4, 2) := by decide +kernel
theorem d_C_coin_5 : decode b_C_coin 5 = .ok (.iload 4, 2) := by decide +kernel
theorem d_C_coin_7 : decode b_C_coin 7 = .ok (.sipush 256, 3) := by decide +kernel
theorem d_C_coin_10 : decode b_C_coin 10 = .ok (.if_icmp .gt 72, 3) := by decide +kernel
theorem d_C_coin_13 : decode b_C_coin 13 = .ok (.iload_n 3, 1) := by decide +kernel
theorem d_C_coin_14 : decode b_C_coin 14 = .ok (.ifCond .ne 5, 3) := by decide +kernel
theorem d_C_coin_17 : decode b_C_coin 17 = .ok (.iconst 0, 1) := by decide +kernel
theorem d_C_coin_18 : decode b_C_coin 18 = .ok (.ireturn, 1) := by decide +kernel
theorem d_C_coin_19 : decode b_C_coin 19 = .ok (.iload_n 3, 1) := by decide +kernel
theorem d_C_coin_20 : decode b_C_coin 20 = .ok (.iload_n 2, 1) := by decide +kernel
theorem d_C_coin_21 : decode b_C_coin 21 = .ok (.if_icmp .ne 5, 3) := by decide +kernel
theorem d_C_coin_24 : decode b_C_coin 24 = .ok (.iconst 1, 1) := by decide +kernel
theorem d_C_coin_25 : decode b_C_coin 25 = .ok (.ireturn, 1) := by decide +kernel
theorem d_C_coin_26 : decode b_C_coin 26 = .ok (.aload_n 0, 1) := by decide +kernel
theorem d_C_coin_27 : decode b_C_coin 27 = .ok (.invokevirtual 138, 3) := by decide +kernel
theorem d_C_coin_30 : decode b_C_coin 30 = .ok (.istore 5, 2) := by decide +kernel
theorem d_C_coin_32 : decode b_C_coin 32 = .ok (.iload 5, 2) := by decide +kernel
theorem d_C_coin_34 : decode b_C_coin 34 = .ok (.iconst (-1), 1) := by decide +kernel
theorem d_C_coin_35 : decode b_C_coin 35 = .ok (.if_icmp .ne 5, 3) := by decide +kernel
theorem d_C_coin_38 : decode b_C_coin 38 = .ok (.iconst (-1), 1) := by decide +kernel
theorem d_C_coin_39 : decode b_C_coin 39 = .ok (.ireturn, 1) := by decide +kernel
theorem d_C_coin_40 : decode b_C_coin 40 = .ok (.iconst 2, 1) := by decide +kernel
theorem d_C_coin_41 : decode b_C_coin 41 = .ok (.iload_n 3, 1) := by decide +kernel
theorem d_C_coin_42 : decode b_C_coin 42 = .ok (.imul, 1) := by decide +kernel
theorem d_C_coin_43 : decode b_C_coin 43 = .ok (.istore_n 3, 1) := by decide +kernel
theorem d_C_coin_44 : decode b_C_coin 44 = .ok (.iload_n 3, 1) := by decide +kernel
theorem d_C_coin_45 : decode b_C_coin 45 = .ok (.iload_n 2, 1) := by decide +kernel
theorem d_C_coin_46 : decode b_C_coin 46 = .ok (.if_icmp .lt 7, 3) := by decide +kernel
theorem d_C_coin_49 : decode b_C_coin 49 = .ok (.iconst 1, 1) := by decide +kernel
theorem d_C_coin_50 : decode b_C_coin 50 = .ok (.goto 4, 3) := by decide +kernel
theorem d_C_coin_53 : decode b_C_coin 53 = .ok (.iconst 0, 1) := by decide +kernel
theorem d_C_coin_54 : decode b_C_coin 54 = .ok (.istore 6, 2) := by decide +kernel
theorem d_C_coin_56 : decode b_C_coin 56 = .ok (.iload 6, 2) := by decide +kernel
theorem d_C_coin_58 : decode b_C_coin 58 = .ok (.iconst 1, 1) := by decide +kernel
theorem d_C_coin_59 : decode b_C_coin 59 = .ok (.if_icmp .ne 7, 3) := by decide +kernel
theorem d_C_coin_62 : decode b_C_coin 62 = .ok (.iload_n 3, 1) := by decide +kernel
theorem d_C_coin_63 : decode b_C_coin 63 = .ok (.iload_n 2, 1) := by decide +kernel
theorem d_C_coin_64 : decode b_C_coin 64 = .ok (.isub, 1) := by decide +kernel
theorem d_C_coin_65 : decode b_C_coin 65 = .ok (.istore_n 3, 1) := by decide +kernel
theorem d_C_coin_66 : decode b_C_coin 66 = .ok (.iload 5, 2) := by decide +kernel
theorem d_C_coin_68 : decode b_C_coin 68 = .ok (.iload 6, 2) := by decide +kernel
theorem d_C_coin_70 : decode b_C_coin 70 = .ok (.if_icmp .eq 6, 3) := by decide +kernel
theorem d_C_coin_73 : decode b_C_coin 73 = .ok (.iload 6, 2) := by decide +kernel
theorem d_C_coin_75 : decode b_C_coin 75 = .ok (.ireturn, 1) := by decide +kernel
theorem d_C_coin_76 : decode b_C_coin 76 = .ok (.iinc 4 1, 3) := by decide +kernel
theorem d_C_coin_79 : decode b_C_coin 79 = .ok (.goto (-74), 3) := by decide +kernel
theorem d_C_coin_82 : decode b_C_coin 82 = .ok (.iconst (-1), 1) := by decide +kernel
theorem d_C_coin_83 : decode b_C_coin 83 = .ok (.ireturn, 1) := by decide +kernel
theorem d_C_tosses_0 : decode b_C_tosses 0 = .ok (.iconst 0, 1) := by decide +kernel
theorem d_C_tosses_1 : decode b_C_tosses 1 = .ok (.istore_n 2, 1) := by decide +kernel
theorem d_C_tosses_2 : decode b_C_tosses 2 = .ok (.iconst 0, 1) := by decide +kernel
theorem d_C_tosses_3 : decode b_C_tosses 3 = .ok (.istore_n 3, 1) := by decide +kernel
theorem d_C_tosses_4 : decode b_C_tosses 4 = .ok (.iload_n 3, 1) := by decide +kernel
theorem d_C_tosses_5 : decode b_C_tosses 5 = .ok (.iload_n 1, 1) := by decide +kernel
theorem d_C_tosses_6 : decode b_C_tosses 6 = .ok (.if_icmp .ge 28, 3) := by decide +kernel
theorem d_C_tosses_9 : decode b_C_tosses 9 = .ok (.aload_n 0, 1) := by decide +kernel
theorem d_C_tosses_10 : decode b_C_tosses 10 = .ok (.invokevirtual 138, 3) := by decide +kernel
theorem d_C_tosses_13 : decode b_C_tosses 13 = .ok (.istore 4, 2) := by decide +kernel
theorem d_C_tosses_15 : decode b_C_tosses 15 = .ok (.iload 4, 2) := by decide +kernel
theorem d_C_tosses_17 : decode b_C_tosses 17 = .ok (.iconst (-1), 1) := by decide +kernel
theorem d_C_tosses_18 : decode b_C_tosses 18 = .ok (.if_icmp .ne 5, 3) := by decide +kernel
theorem d_C_tosses_21 : decode b_C_tosses 21 = .ok (.iconst (-1), 1) := by decide +kernel
theorem d_C_tosses_22 : decode b_C_tosses 22 = .ok (.ireturn, 1) := by decide +kernel
theorem d_C_tosses_23 : decode b_C_tosses 23 = .ok (.iload_n 2, 1) := by decide +kernel
theorem d_C_tosses_24 : decode b_C_tosses 24 = .ok (.iload 4, 2) := by decide +kernel
theorem d_C_tosses_26 : decode b_C_tosses 26 = .ok (.iadd, 1) := by decide +kernel
theorem d_C_tosses_27 : decode b_C_tosses 27 = .ok (.istore_n 2, 1) := by decide +kernel
theorem d_C_tosses_28 : decode b_C_tosses 28 = .ok (.iinc 3 1, 3) := by decide +kernel
theorem d_C_tosses_31 : decode b_C_tosses 31 = .ok (.goto (-27), 3) := by decide +kernel
theorem d_C_tosses_34 : decode b_C_tosses 34 = .ok (.iload_n 2, 1) := by decide +kernel
theorem d_C_tosses_35 : decode b_C_tosses 35 = .ok (.ireturn, 1) := by decide +kernel
theorem d_C_zerosBeforeOne_0 : decode b_C_zerosBeforeOne 0 = .ok (.iconst 0, 1) := by decide +kernel
theorem d_C_zerosBeforeOne_1 : decode b_C_zerosBeforeOne 1 = .ok (.istore_n 2, 1) := by decide +kernel
theorem d_C_zerosBeforeOne_2 : decode b_C_zerosBeforeOne 2 = .ok (.iload_n 2, 1) := by decide +kernel
theorem d_C_zerosBeforeOne_3 : decode b_C_zerosBeforeOne 3 = .ok (.iload_n 1, 1) := by decide +kernel
theorem d_C_zerosBeforeOne_4 : decode b_C_zerosBeforeOne 4 = .ok (.if_icmp .ge 28, 3) := by decide +kernel
theorem d_C_zerosBeforeOne_7 : decode b_C_zerosBeforeOne 7 = .ok (.aload_n 0, 1) := by decide +kernel
theorem d_C_zerosBeforeOne_8 : decode b_C_zerosBeforeOne 8 = .ok (.invokevirtual 138, 3) := by decide +kernel
theorem d_C_zerosBeforeOne_11 : decode b_C_zerosBeforeOne 11 = .ok (.istore_n 3, 1) := by decide +kernel
theorem d_C_zerosBeforeOne_12 : decode b_C_zerosBeforeOne 12 = .ok (.iload_n 3, 1) := by decide +kernel
theorem d_C_zerosBeforeOne_13 : decode b_C_zerosBeforeOne 13 = .ok (.iconst (-1), 1) := by decide +kernel
theorem d_C_zerosBeforeOne_14 : decode b_C_zerosBeforeOne 14 = .ok (.if_icmp .ne 5, 3) := by decide +kernel
theorem d_C_zerosBeforeOne_17 : decode b_C_zerosBeforeOne 17 = .ok (.iconst (-1), 1) := by decide +kernel
theorem d_C_zerosBeforeOne_18 : decode b_C_zerosBeforeOne 18 = .ok (.ireturn, 1) := by decide +kernel
theorem d_C_zerosBeforeOne_19 : decode b_C_zerosBeforeOne 19 = .ok (.iload_n 3, 1) := by decide +kernel
theorem d_C_zerosBeforeOne_20 : decode b_C_zerosBeforeOne 20 = .ok (.iconst 1, 1) := by decide +kernel
theorem d_C_zerosBeforeOne_21 : decode b_C_zerosBeforeOne 21 = .ok (.if_icmp .ne 5, 3) := by decide +kernel
theorem d_C_zerosBeforeOne_24 : decode b_C_zerosBeforeOne 24 = .ok (.iload_n 2, 1) := by decide +kernel
theorem d_C_zerosBeforeOne_25 : decode b_C_zerosBeforeOne 25 = .ok (.ireturn, 1) := by decide +kernel
theorem d_C_zerosBeforeOne_26 : decode b_C_zerosBeforeOne 26 = .ok (.iinc 2 1, 3) := by decide +kernel
theorem d_C_zerosBeforeOne_29 : decode b_C_zerosBeforeOne 29 = .ok (.goto (-27), 3) := by decide +kernel
theorem d_C_zerosBeforeOne_32 : decode b_C_zerosBeforeOne 32 = .ok (.iload_n 1, 1) := by decide +kernel
theorem d_C_zerosBeforeOne_33 : decode b_C_zerosBeforeOne 33 = .ok (.ireturn, 1) := by decide +kernel
theorem d_C_order_0 : decode b_C_order 0 = .ok (.iconst 0, 1) := by decide +kernel
theorem d_C_order_1 : decode b_C_order 1 = .ok (.istore_n 3, 1) := by decide +kernel
theorem d_C_order_2 : decode b_C_order 2 = .ok (.iload_n 3, 1) := by decide +kernel
theorem d_C_order_3 : decode b_C_order 3 = .ok (.iload_n 2, 1) := by decide +kernel
theorem d_C_order_4 : decode b_C_order 4 = .ok (.if_icmp .ge 16, 3) := by decide +kernel
theorem d_C_order_7 : decode b_C_order 7 = .ok (.aload_n 0, 1) := by decide +kernel
theorem d_C_order_8 : decode b_C_order 8 = .ok (.getfield 13, 3) := by decide +kernel
theorem d_C_order_11 : decode b_C_order 11 = .ok (.iload_n 3, 1) := by decide +kernel
theorem d_C_order_12 : decode b_C_order 12 = .ok (.iload_n 3, 1) := by decide +kernel
theorem d_C_order_13 : decode b_C_order 13 = .ok (.iastore, 1) := by decide +kernel
theorem d_C_order_14 : decode b_C_order 14 = .ok (.iinc 3 1, 3) := by decide +kernel
theorem d_C_order_17 : decode b_C_order 17 = .ok (.goto (-15), 3) := by decide +kernel
theorem d_C_order_20 : decode b_C_order 20 = .ok (.iload_n 2, 1) := by decide +kernel
theorem d_C_order_21 : decode b_C_order 21 = .ok (.iconst 1, 1) := by decide +kernel
theorem d_C_order_22 : decode b_C_order 22 = .ok (.isub, 1) := by decide +kernel
theorem d_C_order_23 : decode b_C_order 23 = .ok (.istore_n 3, 1) := by decide +kernel
theorem d_C_order_24 : decode b_C_order 24 = .ok (.iload_n 3, 1) := by decide +kernel
theorem d_C_order_25 : decode b_C_order 25 = .ok (.iconst 1, 1) := by decide +kernel
theorem d_C_order_26 : decode b_C_order 26 = .ok (.if_icmp .lt 56, 3) := by decide +kernel
theorem d_C_order_29 : decode b_C_order 29 = .ok (.aload_n 1, 1) := by decide +kernel
theorem d_C_order_30 : decode b_C_order 30 = .ok (.iload_n 3, 1) := by decide +kernel
theorem d_C_order_31 : decode b_C_order 31 = .ok (.iconst 1, 1) := by decide +kernel
theorem d_C_order_32 : decode b_C_order 32 = .ok (.iadd, 1) := by decide +kernel
theorem d_C_order_33 : decode b_C_order 33 = .ok (.invokestatic 104, 3) := by decide +kernel
theorem d_C_order_36 : decode b_C_order 36 = .ok (.istore 4, 2) := by decide +kernel
theorem d_C_order_38 : decode b_C_order 38 = .ok (.iload 4, 2) := by decide +kernel
theorem d_C_order_40 : decode b_C_order 40 = .ok (.iconst (-1), 1) := by decide +kernel
theorem d_C_order_41 : decode b_C_order 41 = .ok (.if_icmp .ne 5, 3) := by decide +kernel
theorem d_C_order_44 : decode b_C_order 44 = .ok (.iconst (-1), 1) := by decide +kernel
theorem d_C_order_45 : decode b_C_order 45 = .ok (.ireturn, 1) := by decide +kernel
theorem d_C_order_46 : decode b_C_order 46 = .ok (.aload_n 0, 1) := by decide +kernel
theorem d_C_order_47 : decode b_C_order 47 = .ok (.getfield 13, 3) := by decide +kernel
theorem d_C_order_50 : decode b_C_order 50 = .ok (.iload_n 3, 1) := by decide +kernel
theorem d_C_order_51 : decode b_C_order 51 = .ok (.iaload, 1) := by decide +kernel
theorem d_C_order_52 : decode b_C_order 52 = .ok (.istore 5, 2) := by decide +kernel
theorem d_C_order_54 : decode b_C_order 54 = .ok (.aload_n 0, 1) := by decide +kernel
theorem d_C_order_55 : decode b_C_order 55 = .ok (.getfield 13, 3) := by decide +kernel
theorem d_C_order_58 : decode b_C_order 58 = .ok (.iload_n 3, 1) := by decide +kernel
theorem d_C_order_59 : decode b_C_order 59 = .ok (.aload_n 0, 1) := by decide +kernel
theorem d_C_order_60 : decode b_C_order 60 = .ok (.getfield 13, 3) := by decide +kernel
theorem d_C_order_63 : decode b_C_order 63 = .ok (.iload 4, 2) := by decide +kernel
theorem d_C_order_65 : decode b_C_order 65 = .ok (.iaload, 1) := by decide +kernel
theorem d_C_order_66 : decode b_C_order 66 = .ok (.iastore, 1) := by decide +kernel
theorem d_C_order_67 : decode b_C_order 67 = .ok (.aload_n 0, 1) := by decide +kernel
theorem d_C_order_68 : decode b_C_order 68 = .ok (.getfield 13, 3) := by decide +kernel
theorem d_C_order_71 : decode b_C_order 71 = .ok (.iload 4, 2) := by decide +kernel
theorem d_C_order_73 : decode b_C_order 73 = .ok (.iload 5, 2) := by decide +kernel
theorem d_C_order_75 : decode b_C_order 75 = .ok (.iastore, 1) := by decide +kernel
theorem d_C_order_76 : decode b_C_order 76 = .ok (.iinc 3 (-1), 3) := by decide +kernel
theorem d_C_order_79 : decode b_C_order 79 = .ok (.goto (-55), 3) := by decide +kernel
theorem d_C_order_82 : decode b_C_order 82 = .ok (.aload_n 0, 1) := by decide +kernel
theorem d_C_order_83 : decode b_C_order 83 = .ok (.iload_n 2, 1) := by decide +kernel
theorem d_C_order_84 : decode b_C_order 84 = .ok (.invokevirtual 141, 3) := by decide +kernel
theorem d_C_order_87 : decode b_C_order 87 = .ok (.ireturn, 1) := by decide +kernel
theorem d_C_ordersBeforeRow_0 : decode b_C_ordersBeforeRow 0 = .ok (.iconst 0, 1) := by decide +kernel
theorem d_C_ordersBeforeRow_1 : decode b_C_ordersBeforeRow 1 = .ok (.istore_n 2, 1) := by decide +kernel
theorem d_C_ordersBeforeRow_2 : decode b_C_ordersBeforeRow 2 = .ok (.iconst 0, 1) := by decide +kernel
theorem d_C_ordersBeforeRow_3 : decode b_C_ordersBeforeRow 3 = .ok (.istore_n 3, 1) := by decide +kernel
theorem d_C_ordersBeforeRow_4 : decode b_C_ordersBeforeRow 4 = .ok (.iload_n 3, 1) := by decide +kernel
theorem d_C_ordersBeforeRow_5 : decode b_C_ordersBeforeRow 5 = .ok (.iload_n 1, 1) := by decide +kernel
theorem d_C_ordersBeforeRow_6 : decode b_C_ordersBeforeRow 6 = .ok (.if_icmp .ge 57, 3) := by decide +kernel
theorem d_C_ordersBeforeRow_9 : decode b_C_ordersBeforeRow 9 = .ok (.iconst 0, 1) := by decide +kernel
theorem d_C_ordersBeforeRow_10 : decode b_C_ordersBeforeRow 10 = .ok (.istore 4, 2) := by decide +kernel
theorem d_C_ordersBeforeRow_12 : decode b_C_ordersBeforeRow 12 = .ok (.iload_n 3, 1) := by decide +kernel
theorem d_C_ordersBeforeRow_13 : decode b_C_ordersBeforeRow 13 = .ok (.iconst 1, 1) := by decide +kernel
theorem d_C_ordersBeforeRow_14 : decode b_C_ordersBeforeRow 14 = .ok (.iadd, 1) := by decide +kernel
theorem d_C_ordersBeforeRow_15 : decode b_C_ordersBeforeRow 15 = .ok (.istore 5, 2) := by decide +kernel
theorem d_C_ordersBeforeRow_17 : decode b_C_ordersBeforeRow 17 = .ok (.iload 5, 2) := by decide +kernel
theorem d_C_ordersBeforeRow_19 : decode b_C_ordersBeforeRow 19 = .ok (.iload_n 1, 1) := by decide +kernel
theorem d_C_ordersBeforeRow_20 : decode b_C_ordersBeforeRow 20 = .ok (.if_icmp .ge 28, 3) := by decide +kernel
theorem d_C_ordersBeforeRow_23 : decode b_C_ordersBeforeRow 23 = .ok (.aload_n 0, 1) := by decide +kernel
theorem d_C_ordersBeforeRow_24 : decode b_C_ordersBeforeRow 24 = .ok (.getfield 13, 3) := by decide +kernel
theorem d_C_ordersBeforeRow_27 : decode b_C_ordersBeforeRow 27 = .ok (.iload 5, 2) := by decide +kernel
theorem d_C_ordersBeforeRow_29 : decode b_C_ordersBeforeRow 29 = .ok (.iaload, 1) := by decide +kernel
theorem d_C_ordersBeforeRow_30 : decode b_C_ordersBeforeRow 30 = .ok (.aload_n 0, 1) := by decide +kernel
theorem d_C_ordersBeforeRow_31 : decode b_C_ordersBeforeRow 31 = .ok (.getfield 13, 3) := by decide +kernel
theorem d_C_ordersBeforeRow_34 : decode b_C_ordersBeforeRow 34 = .ok (.iload_n 3, 1) := by decide +kernel
theorem d_C_ordersBeforeRow_35 : decode b_C_ordersBeforeRow 35 = .ok (.iaload, 1) := by decide +kernel
theorem d_C_ordersBeforeRow_36 : decode b_C_ordersBeforeRow 36 = .ok (.if_icmp .ge 6, 3) := by decide +kernel
theorem d_C_ordersBeforeRow_39 : decode b_C_ordersBeforeRow 39 = .ok (.iinc 4 1, 3) := by decide +kernel
theorem d_C_ordersBeforeRow_42 : decode b_C_ordersBeforeRow 42 = .ok (.iinc 5 1, 3) := by decide +kernel
theorem d_C_ordersBeforeRow_45 : decode b_C_ordersBeforeRow 45 = .ok (.goto (-28), 3) := by decide +kernel
theorem d_C_ordersBeforeRow_48 : decode b_C_ordersBeforeRow 48 = .ok (.iload_n 2, 1) := by decide +kernel
theorem d_C_ordersBeforeRow_49 : decode b_C_ordersBeforeRow 49 = .ok (.iload_n 1, 1) := by decide +kernel
theorem d_C_ordersBeforeRow_50 : decode b_C_ordersBeforeRow 50 = .ok (.iload_n 3, 1) := by decide +kernel
theorem d_C_ordersBeforeRow_51 : decode b_C_ordersBeforeRow 51 = .ok (.isub, 1) := by decide +kernel
theorem d_C_ordersBeforeRow_52 : decode b_C_ordersBeforeRow 52 = .ok (.imul, 1) := by decide +kernel
theorem d_C_ordersBeforeRow_53 : decode b_C_ordersBeforeRow 53 = .ok (.iload 4, 2) := by decide +kernel
theorem d_C_ordersBeforeRow_55 : decode b_C_ordersBeforeRow 55 = .ok (.iadd, 1) := by decide +kernel
theorem d_C_ordersBeforeRow_56 : decode b_C_ordersBeforeRow 56 = .ok (.istore_n 2, 1) := by decide +kernel
theorem d_C_ordersBeforeRow_57 : decode b_C_ordersBeforeRow 57 = .ok (.iinc 3 1, 3) := by decide +kernel
theorem d_C_ordersBeforeRow_60 : decode b_C_ordersBeforeRow 60 = .ok (.goto (-56), 3) := by decide +kernel
theorem d_C_ordersBeforeRow_63 : decode b_C_ordersBeforeRow 63 = .ok (.iload_n 2, 1) := by decide +kernel
theorem d_C_ordersBeforeRow_64 : decode b_C_ordersBeforeRow 64 = .ok (.ireturn, 1) := by decide +kernel
theorem d_C_choice_0 : decode b_C_choice 0 = .ok (.iconst 0, 1) := by decide +kernel
theorem d_C_choice_1 : decode b_C_choice 1 = .ok (.istore_n 3, 1) := by decide +kernel
theorem d_C_choice_2 : decode b_C_choice 2 = .ok (.iconst 0, 1) := by decide +kernel
theorem d_C_choice_3 : decode b_C_choice 3 = .ok (.istore 4, 2) := by decide +kernel
theorem d_C_choice_5 : decode b_C_choice 5 = .ok (.iconst 0, 1) := by decide +kernel
theorem d_C_choice_6 : decode b_C_choice 6 = .ok (.istore 5, 2) := by decide +kernel
theorem d_C_choice_8 : decode b_C_choice 8 = .ok (.iload 5, 2) := by decide +kernel
theorem d_C_choice_10 : decode b_C_choice 10 = .ok (.iload_n 1, 1) := by decide +kernel
theorem d_C_choice_11 : decode b_C_choice 11 = .ok (.if_icmp .ge 45, 3) := by decide +kernel
theorem d_C_choice_14 : decode b_C_choice 14 = .ok (.aload_n 0, 1) := by decide +kernel
theorem d_C_choice_15 : decode b_C_choice 15 = .ok (.iload_n 2, 1) := by decide +kernel
theorem d_C_choice_16 : decode b_C_choice 16 = .ok (.iload_n 3, 1) := by decide +kernel
theorem d_C_choice_17 : decode b_C_choice 17 = .ok (.isub, 1) := by decide +kernel
theorem d_C_choice_18 : decode b_C_choice 18 = .ok (.iload_n 1, 1) := by decide +kernel
theorem d_C_choice_19 : decode b_C_choice 19 = .ok (.iload 5, 2) := by decide +kernel
theorem d_C_choice_21 : decode b_C_choice 21 = .ok (.isub, 1) := by decide +kernel
theorem d_C_choice_22 : decode b_C_choice 22 = .ok (.invokestatic 111, 3) := by decide +kernel
theorem d_C_choice_25 : decode b_C_choice 25 = .ok (.istore 6, 2) := by decide +kernel
theorem d_C_choice_27 : decode b_C_choice 27 = .ok (.iload 6, 2) := by decide +kernel
theorem d_C_choice_29 : decode b_C_choice 29 = .ok (.iconst (-1), 1) := by decide +kernel
theorem d_C_choice_30 : decode b_C_choice 30 = .ok (.if_icmp .ne 5, 3) := by decide +kernel
theorem d_C_choice_33 : decode b_C_choice 33 = .ok (.iconst (-1), 1) := by decide +kernel
theorem d_C_choice_34 : decode b_C_choice 34 = .ok (.ireturn, 1) := by decide +kernel
theorem d_C_choice_35 : decode b_C_choice 35 = .ok (.iload_n 3, 1) := by decide +kernel
theorem d_C_choice_36 : decode b_C_choice 36 = .ok (.iload 6, 2) := by decide +kernel
theorem d_C_choice_38 : decode b_C_choice 38 = .ok (.iadd, 1) := by decide +kernel
theorem d_C_choice_39 : decode b_C_choice 39 = .ok (.istore_n 3, 1) := by decide +kernel
theorem d_C_choice_40 : decode b_C_choice 40 = .ok (.iload 4, 2) := by decide +kernel
theorem d_C_choice_42 : decode b_C_choice 42 = .ok (.iload 6, 2) := by decide +kernel
theorem d_C_choice_44 : decode b_C_choice 44 = .ok (.iload 5, 2) := by decide +kernel
theorem d_C_choice_46 : decode b_C_choice 46 = .ok (.ishl, 1) := by decide +kernel
theorem d_C_choice_47 : decode b_C_choice 47 = .ok (.ior, 1) := by decide +kernel
theorem d_C_choice_48 : decode b_C_choice 48 = .ok (.istore 4, 2) := by decide +kernel
theorem d_C_choice_50 : decode b_C_choice 50 = .ok (.iinc 5 1, 3) := by decide +kernel
theorem d_C_choice_53 : decode b_C_choice 53 = .ok (.goto (-45), 3) := by decide +kernel
theorem d_C_choice_56 : decode b_C_choice 56 = .ok (.iload 4, 2) := by decide +kernel
theorem d_C_choice_58 : decode b_C_choice 58 = .ok (.ireturn, 1) := by decide +kernel
theorem d_C_share_0 : decode b_C_share 0 = .ok (.aload_n 1, 1) := by decide +kernel
theorem d_C_share_1 : decode b_C_share 1 = .ok (.aload_n 0, 1) := by decide +kernel
theorem d_C_share_2 : decode b_C_share 2 = .ok (.invokevirtual 51, 3) := by decide +kernel
theorem d_C_share_5 : decode b_C_share 5 = .ok (.invokestatic 104, 3) := by decide +kernel
theorem d_C_share_8 : decode b_C_share 8 = .ok (.istore_n 2, 1) := by decide +kernel
theorem d_C_share_9 : decode b_C_share 9 = .ok (.iload_n 2, 1) := by decide +kernel
theorem d_C_share_10 : decode b_C_share 10 = .ok (.iconst (-1), 1) := by decide +kernel
theorem d_C_share_11 : decode b_C_share 11 = .ok (.if_icmp .ne 5, 3) := by decide +kernel
theorem d_C_share_14 : decode b_C_share 14 = .ok (.iconst (-1), 1) := by decide +kernel
theorem d_C_share_15 : decode b_C_share 15 = .ok (.ireturn, 1) := by decide +kernel
theorem d_C_share_16 : decode b_C_share 16 = .ok (.iconst 0, 1) := by decide +kernel
theorem d_C_share_17 : decode b_C_share 17 = .ok (.istore_n 3, 1) := by decide +kernel
theorem d_C_share_18 : decode b_C_share 18 = .ok (.iconst 0, 1) := by decide +kernel
theorem d_C_share_19 : decode b_C_share 19 = .ok (.istore 4, 2) := by decide +kernel
theorem d_C_share_21 : decode b_C_share 21 = .ok (.iload 4, 2) := by decide +kernel
theorem d_C_share_23 : decode b_C_share 23 = .ok (.bipush 8, 2) := by decide +kernel
theorem d_C_share_25 : decode b_C_share 25 = .ok (.if_icmp .ge 27, 3) := by decide +kernel
theorem d_C_share_28 : decode b_C_share 28 = .ok (.iload_n 3, 1) := by decide +kernel
theorem d_C_share_29 : decode b_C_share 29 = .ok (.aload_n 0, 1) := by decide +kernel
theorem d_C_share_30 : decode b_C_share 30 = .ok (.getfield 9, 3) := by decide +kernel
theorem d_C_share_33 : decode b_C_share 33 = .ok (.iload 4, 2) := by decide +kernel
theorem d_C_share_35 : decode b_C_share 35 = .ok (.iaload, 1) := by decide +kernel
theorem d_C_share_36 : decode b_C_share 36 = .ok (.iadd, 1) := by decide +kernel
theorem d_C_share_37 : decode b_C_share 37 = .ok (.istore_n 3, 1) := by decide +kernel
theorem d_C_share_38 : decode b_C_share 38 = .ok (.iload_n 3, 1) := by decide +kernel
theorem d_C_share_39 : decode b_C_share 39 = .ok (.iload_n 2, 1) := by decide +kernel
theorem d_C_share_40 : decode b_C_share 40 = .ok (.if_icmp .le 6, 3) := by decide +kernel
theorem d_C_share_43 : decode b_C_share 43 = .ok (.iload 4, 2) := by decide +kernel
theorem d_C_share_45 : decode b_C_share 45 = .ok (.ireturn, 1) := by decide +kernel
theorem d_C_share_46 : decode b_C_share 46 = .ok (.iinc 4 1, 3) := by decide +kernel
theorem d_C_share_49 : decode b_C_share 49 = .ok (.goto (-28), 3) := by decide +kernel
theorem d_C_share_52 : decode b_C_share 52 = .ok (.iconst (-1), 1) := by decide +kernel
theorem d_C_share_53 : decode b_C_share 53 = .ok (.ireturn, 1) := by decide +kernel
