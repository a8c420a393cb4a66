theorem d_C_init_0 : decode b_C_init 0 = .ok (.aload_n 0, 1) := by decide +kernel
theorem d_C_init_1 : decode b_C_init 1 = .ok (.invokespecial 1, 3) := by decide +kernel
theorem d_C_init_4 : decode b_C_init 4 = .ok (.aload_n 0, 1) := by decide +kernel
theorem d_C_init_5 : decode b_C_init 5 = .ok (.bipush 8, 2) := by decide +kernel
theorem d_C_init_7 : decode b_C_init 7 = .ok (.newarray .int, 2) := by decide +kernel
theorem d_C_init_9 : decode b_C_init 9 = .ok (.putfield 9, 3) := by decide +kernel
theorem d_C_init_12 : decode b_C_init 12 = .ok (.iconst 0, 1) := by decide +kernel
theorem d_C_init_13 : decode b_C_init 13 = .ok (.istore_n 1, 1) := by decide +kernel
theorem d_C_init_14 : decode b_C_init 14 = .ok (.iload_n 1, 1) := by decide +kernel
theorem d_C_init_15 : decode b_C_init 15 = .ok (.bipush 8, 2) := by decide +kernel
theorem d_C_init_17 : decode b_C_init 17 = .ok (.if_icmp .ge 16, 3) := by decide +kernel
theorem d_C_init_20 : decode b_C_init 20 = .ok (.aload_n 0, 1) := by decide +kernel
theorem d_C_init_21 : decode b_C_init 21 = .ok (.getfield 9, 3) := by decide +kernel
theorem d_C_init_24 : decode b_C_init 24 = .ok (.iload_n 1, 1) := by decide +kernel
theorem d_C_init_25 : decode b_C_init 25 = .ok (.iconst 1, 1) := by decide +kernel
theorem d_C_init_26 : decode b_C_init 26 = .ok (.iastore, 1) := by decide +kernel
theorem d_C_init_27 : decode b_C_init 27 = .ok (.iinc 1 1, 3) := by decide +kernel
theorem d_C_init_30 : decode b_C_init 30 = .ok (.goto (-16), 3) := by decide +kernel
theorem d_C_init_33 : decode b_C_init 33 = .ok (.aload_n 0, 1) := by decide +kernel
theorem d_C_init_34 : decode b_C_init 34 = .ok (.iconst 4, 1) := by decide +kernel
theorem d_C_init_35 : decode b_C_init 35 = .ok (.newarray .int, 2) := by decide +kernel
theorem d_C_init_37 : decode b_C_init 37 = .ok (.putfield 13, 3) := by decide +kernel
theorem d_C_init_40 : decode b_C_init 40 = .ok (.aload_n 0, 1) := by decide +kernel
theorem d_C_init_41 : decode b_C_init 41 = .ok (.new 16, 3) := by decide +kernel
theorem d_C_init_44 : decode b_C_init 44 = .ok (.dup, 1) := by decide +kernel
theorem d_C_init_45 : decode b_C_init 45 = .ok (.sipush 256, 3) := by decide +kernel
theorem d_C_init_48 : decode b_C_init 48 = .ok (.invokespecial 18, 3) := by decide +kernel
theorem d_C_init_51 : decode b_C_init 51 = .ok (.putfield 21, 3) := by decide +kernel
theorem d_C_init_54 : decode b_C_init 54 = .ok (.aload_n 0, 1) := by decide +kernel
theorem d_C_init_55 : decode b_C_init 55 = .ok (.new 16, 3) := by decide +kernel
theorem d_C_init_58 : decode b_C_init 58 = .ok (.dup, 1) := by decide +kernel
theorem d_C_init_59 : decode b_C_init 59 = .ok (.bipush 12, 2) := by decide +kernel
theorem d_C_init_61 : decode b_C_init 61 = .ok (.invokespecial 18, 3) := by decide +kernel
theorem d_C_init_64 : decode b_C_init 64 = .ok (.putfield 25, 3) := by decide +kernel
theorem d_C_init_67 : decode b_C_init 67 = .ok (.aload_n 0, 1) := by decide +kernel
theorem d_C_init_68 : decode b_C_init 68 = .ok (.new 28, 3) := by decide +kernel
theorem d_C_init_71 : decode b_C_init 71 = .ok (.dup, 1) := by decide +kernel
theorem d_C_init_72 : decode b_C_init 72 = .ok (.invokespecial 30, 3) := by decide +kernel
theorem d_C_init_75 : decode b_C_init 75 = .ok (.putfield 31, 3) := by decide +kernel
theorem d_C_init_78 : decode b_C_init 78 = .ok (.aload_n 0, 1) := by decide +kernel
theorem d_C_init_79 : decode b_C_init 79 = .ok (.iconst 0, 1) := by decide +kernel
theorem d_C_init_80 : decode b_C_init 80 = .ok (.putfield 35, 3) := by decide +kernel
theorem d_C_init_83 : decode b_C_init 83 = .ok (.return_, 1) := by decide +kernel
theorem d_C_weigh_0 : decode b_C_weigh 0 = .ok (.iload_n 1, 1) := by decide +kernel
theorem d_C_weigh_1 : decode b_C_weigh 1 = .ok (.iconst 0, 1) := by decide +kernel
theorem d_C_weigh_2 : decode b_C_weigh 2 = .ok (.bipush 7, 2) := by decide +kernel
theorem d_C_weigh_4 : decode b_C_weigh 4 = .ok (.invokestatic 39, 3) := by decide +kernel
theorem d_C_weigh_7 : decode b_C_weigh 7 = .ok (.ifCond .eq 13, 3) := by decide +kernel
theorem d_C_weigh_10 : decode b_C_weigh 10 = .ok (.iload_n 2, 1) := by decide +kernel
theorem d_C_weigh_11 : decode b_C_weigh 11 = .ok (.iconst 0, 1) := by decide +kernel
theorem d_C_weigh_12 : decode b_C_weigh 12 = .ok (.bipush 15, 2) := by decide +kernel
theorem d_C_weigh_14 : decode b_C_weigh 14 = .ok (.invokestatic 39, 3) := by decide +kernel
theorem d_C_weigh_17 : decode b_C_weigh 17 = .ok (.ifCond .ne 5, 3) := by decide +kernel
theorem d_C_weigh_20 : decode b_C_weigh 20 = .ok (.iconst 0, 1) := by decide +kernel
theorem d_C_weigh_21 : decode b_C_weigh 21 = .ok (.ireturn, 1) := by decide +kernel
theorem d_C_weigh_22 : decode b_C_weigh 22 = .ok (.aload_n 0, 1) := by decide +kernel
theorem d_C_weigh_23 : decode b_C_weigh 23 = .ok (.getfield 9, 3) := by decide +kernel
theorem d_C_weigh_26 : decode b_C_weigh 26 = .ok (.iload_n 1, 1) := by decide +kernel
theorem d_C_weigh_27 : decode b_C_weigh 27 = .ok (.iload_n 2, 1) := by decide +kernel
theorem d_C_weigh_28 : decode b_C_weigh 28 = .ok (.iastore, 1) := by decide +kernel
theorem d_C_weigh_29 : decode b_C_weigh 29 = .ok (.iconst 1, 1) := by decide +kernel
theorem d_C_weigh_30 : decode b_C_weigh 30 = .ok (.ireturn, 1) := by decide +kernel
theorem d_C_weight_0 : decode b_C_weight 0 = .ok (.iload_n 1, 1) := by decide +kernel
theorem d_C_weight_1 : decode b_C_weight 1 = .ok (.iconst 0, 1) := by decide +kernel
theorem d_C_weight_2 : decode b_C_weight 2 = .ok (.bipush 7, 2) := by decide +kernel
theorem d_C_weight_4 : decode b_C_weight 4 = .ok (.invokestatic 39, 3) := by decide +kernel
theorem d_C_weight_7 : decode b_C_weight 7 = .ok (.ifCond .eq 12, 3) := by decide +kernel
theorem d_C_weight_10 : decode b_C_weight 10 = .ok (.aload_n 0, 1) := by decide +kernel
theorem d_C_weight_11 : decode b_C_weight 11 = .ok (.getfield 9, 3) := by decide +kernel
theorem d_C_weight_14 : decode b_C_weight 14 = .ok (.iload_n 1, 1) := by decide +kernel
theorem d_C_weight_15 : decode b_C_weight 15 = .ok (.iaload, 1) := by decide +kernel
theorem d_C_weight_16 : decode b_C_weight 16 = .ok (.goto 4, 3) := by decide +kernel
theorem d_C_weight_19 : decode b_C_weight 19 = .ok (.iconst (-1), 1) := by decide +kernel
theorem d_C_weight_20 : decode b_C_weight 20 = .ok (.ireturn, 1) := by decide +kernel
theorem d_C_feed_0 : decode b_C_feed 0 = .ok (.aload_n 0, 1) := by decide +kernel
theorem d_C_feed_1 : decode b_C_feed 1 = .ok (.getfield 21, 3) := by decide +kernel
theorem d_C_feed_4 : decode b_C_feed 4 = .ok (.iload_n 1, 1) := by decide +kernel
theorem d_C_feed_5 : decode b_C_feed 5 = .ok (.iload_n 2, 1) := by decide +kernel
theorem d_C_feed_6 : decode b_C_feed 6 = .ok (.invokevirtual 43, 3) := by decide +kernel
theorem d_C_feed_9 : decode b_C_feed 9 = .ok (.ifCond .eq 13, 3) := by decide +kernel
theorem d_C_feed_12 : decode b_C_feed 12 = .ok (.aload_n 0, 1) := by decide +kernel
theorem d_C_feed_13 : decode b_C_feed 13 = .ok (.getfield 21, 3) := by decide +kernel
theorem d_C_feed_16 : decode b_C_feed 16 = .ok (.invokevirtual 47, 3) := by decide +kernel
theorem d_C_feed_19 : decode b_C_feed 19 = .ok (.goto 4, 3) := by decide +kernel
theorem d_C_feed_22 : decode b_C_feed 22 = .ok (.iconst (-1), 1) := by decide +kernel
theorem d_C_feed_23 : decode b_C_feed 23 = .ok (.ireturn, 1) := by decide +kernel
theorem d_C_left_0 : decode b_C_left 0 = .ok (.aload_n 0, 1) := by decide +kernel
theorem d_C_left_1 : decode b_C_left 1 = .ok (.getfield 21, 3) := by decide +kernel
theorem d_C_left_4 : decode b_C_left 4 = .ok (.invokevirtual 47, 3) := by decide +kernel
theorem d_C_left_7 : decode b_C_left 7 = .ok (.ireturn, 1) := by decide +kernel
theorem d_C_isOne_0 : decode b_C_isOne 0 = .ok (.iload_n 1, 1) := by decide +kernel
theorem d_C_isOne_1 : decode b_C_isOne 1 = .ok (.tableswitch 131 0 7 #[47, 47, 55, 80, 80, 88, 95, 120], 47) := by decide +kernel
theorem d_C_isOne_48 : decode b_C_isOne 48 = .ok (.iload_n 2, 1) := by decide +kernel
theorem d_C_isOne_49 : decode b_C_isOne 49 = .ok (.iconst 1, 1) := by decide +kernel
theorem d_C_isOne_50 : decode b_C_isOne 50 = .ok (.bipush 64, 2) := by decide +kernel
theorem d_C_isOne_52 : decode b_C_isOne 52 = .ok (.invokestatic 39, 3) := by decide +kernel
theorem d_C_isOne_55 : decode b_C_isOne 55 = .ok (.ireturn, 1) := by decide +kernel
theorem d_C_isOne_56 : decode b_C_isOne 56 = .ok (.iload_n 3, 1) := by decide +kernel
theorem d_C_isOne_57 : decode b_C_isOne 57 = .ok (.iconst 1, 1) := by decide +kernel
theorem d_C_isOne_58 : decode b_C_isOne 58 = .ok (.bipush 64, 2) := by decide +kernel
theorem d_C_isOne_60 : decode b_C_isOne 60 = .ok (.invokestatic 39, 3) := by decide +kernel
theorem d_C_isOne_63 : decode b_C_isOne 63 = .ok (.ifCond .eq 16, 3) := by decide +kernel
theorem d_C_isOne_66 : decode b_C_isOne 66 = .ok (.iload_n 2, 1) := by decide +kernel
theorem d_C_isOne_67 : decode b_C_isOne 67 = .ok (.iconst 0, 1) := by decide +kernel
theorem d_C_isOne_68 : decode b_C_isOne 68 = .ok (.iload_n 3, 1) := by decide +kernel
theorem d_C_isOne_69 : decode b_C_isOne 69 = .ok (.invokestatic 39, 3) := by decide +kernel
theorem d_C_isOne_72 : decode b_C_isOne 72 = .ok (.ifCond .eq 7, 3) := by decide +kernel
theorem d_C_isOne_75 : decode b_C_isOne 75 = .ok (.iconst 1, 1) := by decide +kernel
theorem d_C_isOne_76 : decode b_C_isOne 76 = .ok (.goto 4, 3) := by decide +kernel
theorem d_C_isOne_79 : decode b_C_isOne 79 = .ok (.iconst 0, 1) := by decide +kernel
theorem d_C_isOne_80 : decode b_C_isOne 80 = .ok (.ireturn, 1) := by decide +kernel
theorem d_C_isOne_81 : decode b_C_isOne 81 = .ok (.iload_n 2, 1) := by decide +kernel
theorem d_C_isOne_82 : decode b_C_isOne 82 = .ok (.iconst 0, 1) := by decide +kernel
theorem d_C_isOne_83 : decode b_C_isOne 83 = .ok (.bipush 12, 2) := by decide +kernel
theorem d_C_isOne_85 : decode b_C_isOne 85 = .ok (.invokestatic 39, 3) := by decide +kernel
theorem d_C_isOne_88 : decode b_C_isOne 88 = .ok (.ireturn, 1) := by decide +kernel
theorem d_C_isOne_89 : decode b_C_isOne 89 = .ok (.iload_n 2, 1) := by decide +kernel
theorem d_C_isOne_90 : decode b_C_isOne 90 = .ok (.iconst 1, 1) := by decide +kernel
theorem d_C_isOne_91 : decode b_C_isOne 91 = .ok (.iconst 4, 1) := by decide +kernel
theorem d_C_isOne_92 : decode b_C_isOne 92 = .ok (.invokestatic 39, 3) := by decide +kernel
theorem d_C_isOne_95 : decode b_C_isOne 95 = .ok (.ireturn, 1) := by decide +kernel
theorem d_C_isOne_96 : decode b_C_isOne 96 = .ok (.iload_n 2, 1) := by decide +kernel
theorem d_C_isOne_97 : decode b_C_isOne 97 = .ok (.iconst 1, 1) := by decide +kernel
theorem d_C_isOne_98 : decode b_C_isOne 98 = .ok (.bipush 6, 2) := by decide +kernel
theorem d_C_isOne_100 : decode b_C_isOne 100 = .ok (.invokestatic 39, 3) := by decide +kernel
theorem d_C_isOne_103 : decode b_C_isOne 103 = .ok (.ifCond .eq 16, 3) := by decide +kernel
theorem d_C_isOne_106 : decode b_C_isOne 106 = .ok (.iload_n 3, 1) := by decide +kernel
theorem d_C_isOne_107 : decode b_C_isOne 107 = .ok (.iconst 0, 1) := by decide +kernel
theorem d_C_isOne_108 : decode b_C_isOne 108 = .ok (.iload_n 2, 1) := by decide +kernel
theorem d_C_isOne_109 : decode b_C_isOne 109 = .ok (.invokestatic 39, 3) := by decide +kernel
theorem d_C_isOne_112 : decode b_C_isOne 112 = .ok (.ifCond .eq 7, 3) := by decide +kernel
theorem d_C_isOne_115 : decode b_C_isOne 115 = .ok (.iconst 1, 1) := by decide +kernel
theorem d_C_isOne_116 : decode b_C_isOne 116 = .ok (.goto 4, 3) := by decide +kernel
theorem d_C_isOne_119 : decode b_C_isOne 119 = .ok (.iconst 0, 1) := by decide +kernel
theorem d_C_isOne_120 : decode b_C_isOne 120 = .ok (.ireturn, 1) := by decide +kernel
theorem d_C_isOne_121 : decode b_C_isOne 121 = .ok (.aload_n 0, 1) := by decide +kernel
theorem d_C_isOne_122 : decode b_C_isOne 122 = .ok (.invokevirtual 51, 3) := by decide +kernel
theorem d_C_isOne_125 : decode b_C_isOne 125 = .ok (.iconst 1, 1) := by decide +kernel
theorem d_C_isOne_126 : decode b_C_isOne 126 = .ok (.bipush 64, 2) := by decide +kernel
theorem d_C_isOne_128 : decode b_C_isOne 128 = .ok (.invokestatic 39, 3) := by decide +kernel
theorem d_C_isOne_131 : decode b_C_isOne 131 = .ok (.ireturn, 1) := by decide +kernel
theorem d_C_isOne_132 : decode b_C_isOne 132 = .ok (.iconst 0, 1) := by decide +kernel
theorem d_C_isOne_133 : decode b_C_isOne 133 = .ok (.ireturn, 1) := by decide +kernel
theorem d_C_draw_0 : decode b_C_draw 0 = .ok (.aload_n 0, 1) := by decide +kernel
theorem d_C_draw_1 : decode b_C_draw 1 = .ok (.iload_n 1, 1) := by decide +kernel
theorem d_C_draw_2 : decode b_C_draw 2 = .ok (.iload_n 2, 1) := by decide +kernel
theorem d_C_draw_3 : decode b_C_draw 3 = .ok (.iload_n 3, 1) := by decide +kernel
theorem d_C_draw_4 : decode b_C_draw 4 = .ok (.invokevirtual 54, 3) := by decide +kernel
theorem d_C_draw_7 : decode b_C_draw 7 = .ok (.ifCond .ne 5, 3) := by decide +kernel
theorem d_C_draw_10 : decode b_C_draw 10 = .ok (.iconst (-1), 1) := by decide +kernel
theorem d_C_draw_11 : decode b_C_draw 11 = .ok (.ireturn, 1) := by decide +kernel
theorem d_C_draw_12 : decode b_C_draw 12 = .ok (.aload_n 0, 1) := by decide +kernel
theorem d_C_draw_13 : decode b_C_draw 13 = .ok (.getfield 21, 3) := by decide +kernel
theorem d_C_draw_16 : decode b_C_draw 16 = .ok (.invokevirtual 57, 3) := by decide +kernel
theorem d_C_draw_19 : decode b_C_draw 19 = .ok (.aload_n 0, 1) := by decide +kernel
theorem d_C_draw_20 : decode b_C_draw 20 = .ok (.aload_n 0, 1) := by decide +kernel
theorem d_C_draw_21 : decode b_C_draw 21 = .ok (.getfield 21, 3) := by decide +kernel
theorem d_C_draw_24 : decode b_C_draw 24 = .ok (.iload_n 1, 1) := by decide +kernel
theorem d_C_draw_25 : decode b_C_draw 25 = .ok (.iload_n 2, 1) := by decide +kernel
theorem d_C_draw_26 : decode b_C_draw 26 = .ok (.iload_n 3, 1) := by decide +kernel
theorem d_C_draw_27 : decode b_C_draw 27 = .ok (.invokevirtual 60, 3) := by decide +kernel
theorem d_C_draw_30 : decode b_C_draw 30 = .ok (.istore 4, 2) := by decide +kernel
theorem d_C_draw_32 : decode b_C_draw 32 = .ok (.iload 4, 2) := by decide +kernel
theorem d_C_draw_34 : decode b_C_draw 34 = .ok (.iconst (-1), 1) := by decide +kernel
theorem d_C_draw_35 : decode b_C_draw 35 = .ok (.if_icmp .ne 5, 3) := by decide +kernel
theorem d_C_draw_38 : decode b_C_draw 38 = .ok (.iconst (-1), 1) := by decide +kernel
theorem d_C_draw_39 : decode b_C_draw 39 = .ok (.ireturn, 1) := by decide +kernel
theorem d_C_draw_40 : decode b_C_draw 40 = .ok (.aload_n 0, 1) := by decide +kernel
theorem d_C_draw_41 : decode b_C_draw 41 = .ok (.aload_n 0, 1) := by decide +kernel
theorem d_C_draw_42 : decode b_C_draw 42 = .ok (.getfield 21, 3) := by decide +kernel
theorem d_C_draw_45 : decode b_C_draw 45 = .ok (.invokevirtual 64, 3) := by decide +kernel
theorem d_C_draw_48 : decode b_C_draw 48 = .ok (.putfield 35, 3) := by decide +kernel
theorem d_C_draw_51 : decode b_C_draw 51 = .ok (.aload_n 0, 1) := by decide +kernel
theorem d_C_draw_52 : decode b_C_draw 52 = .ok (.getfield 21, 3) := by decide +kernel
theorem d_C_draw_55 : decode b_C_draw 55 = .ok (.invokevirtual 67, 3) := by decide +kernel
theorem d_C_draw_58 : decode b_C_draw 58 = .ok (.iload 4, 2) := by decide +kernel
theorem d_C_draw_60 : decode b_C_draw 60 = .ok (.ireturn, 1) := by decide +kernel
theorem d_C_spent_0 : decode b_C_spent 0 = .ok (.aload_n 0, 1) := by decide +kernel
theorem d_C_spent_1 : decode b_C_spent 1 = .ok (.getfield 35, 3) := by decide +kernel
theorem d_C_spent_4 : decode b_C_spent 4 = .ok (.ireturn, 1) := by decide +kernel
theorem d_C_count_0 : decode b_C_count 0 = .ok (.aload_n 0, 1) := by decide +kernel
theorem d_C_count_1 : decode b_C_count 1 = .ok (.iload_n 1, 1) := by decide +kernel
theorem d_C_count_2 : decode b_C_count 2 = .ok (.iload_n 2, 1) := by decide +kernel
theorem d_C_count_3 : decode b_C_count 3 = .ok (.iload_n 3, 1) := by decide +kernel
theorem d_C_count_4 : decode b_C_count 4 = .ok (.iload 4, 2) := by decide +kernel
theorem d_C_count_6 : decode b_C_count 6 = .ok (.invokevirtual 70, 3) := by decide +kernel
theorem d_C_count_9 : decode b_C_count 9 = .ok (.ifCond .ne 5, 3) := by decide +kernel
theorem d_C_count_12 : decode b_C_count 12 = .ok (.iconst (-1), 1) := by decide +kernel
theorem d_C_count_13 : decode b_C_count 13 = .ok (.ireturn, 1) := by decide +kernel
theorem d_C_count_14 : decode b_C_count 14 = .ok (.aload_n 0, 1) := by decide +kernel
theorem d_C_count_15 : decode b_C_count 15 = .ok (.iload_n 1, 1) := by decide +kernel
theorem d_C_count_16 : decode b_C_count 16 = .ok (.iload_n 2, 1) := by decide +kernel
theorem d_C_count_17 : decode b_C_count 17 = .ok (.iload_n 3, 1) := by decide +kernel
theorem d_C_count_18 : decode b_C_count 18 = .ok (.iload 4, 2) := by decide +kernel
theorem d_C_count_20 : decode b_C_count 20 = .ok (.iload 5, 2) := by decide +kernel
theorem d_C_count_22 : decode b_C_count 22 = .ok (.invokevirtual 74, 3) := by decide +kernel
theorem d_C_count_25 : decode b_C_count 25 = .ok (.aload_n 0, 1) := by decide +kernel
theorem d_C_count_26 : decode b_C_count 26 = .ok (.getfield 31, 3) := by decide +kernel
theorem d_C_count_29 : decode b_C_count 29 = .ok (.getfield 78, 3) := by decide +kernel
theorem d_C_count_32 : decode b_C_count 32 = .ok (.ireturn, 1) := by decide +kernel
theorem d_C_fails_0 : decode b_C_fails 0 = .ok (.aload_n 0, 1) := by decide +kernel
theorem d_C_fails_1 : decode b_C_fails 1 = .ok (.iload_n 1, 1) := by decide +kernel
theorem d_C_fails_2 : decode b_C_fails 2 = .ok (.iload_n 2, 1) := by decide +kernel
theorem d_C_fails_3 : decode b_C_fails 3 = .ok (.iload_n 3, 1) := by decide +kernel
theorem d_C_fails_4 : decode b_C_fails 4 = .ok (.iload 4, 2) := by decide +kernel
theorem d_C_fails_6 : decode b_C_fails 6 = .ok (.invokevirtual 70, 3) := by decide +kernel
theorem d_C_fails_9 : decode b_C_fails 9 = .ok (.ifCond .ne 5, 3) := by decide +kernel
theorem d_C_fails_12 : decode b_C_fails 12 = .ok (.iconst (-1), 1) := by decide +kernel
theorem d_C_fails_13 : decode b_C_fails 13 = .ok (.ireturn, 1) := by decide +kernel
theorem d_C_fails_14 : decode b_C_fails 14 = .ok (.aload_n 0, 1) := by decide +kernel
theorem d_C_fails_15 : decode b_C_fails 15 = .ok (.iload_n 1, 1) := by decide +kernel
theorem d_C_fails_16 : decode b_C_fails 16 = .ok (.iload_n 2, 1) := by decide +kernel
theorem d_C_fails_17 : decode b_C_fails 17 = .ok (.iload_n 3, 1) := by decide +kernel
theorem d_C_fails_18 : decode b_C_fails 18 = .ok (.iload 4, 2) := by decide +kernel
theorem d_C_fails_20 : decode b_C_fails 20 = .ok (.iconst (-1), 1) := by decide +kernel
theorem d_C_fails_21 : decode b_C_fails 21 = .ok (.invokevirtual 74, 3) := by decide +kernel
theorem d_C_fails_24 : decode b_C_fails 24 = .ok (.aload_n 0, 1) := by decide +kernel
theorem d_C_fails_25 : decode b_C_fails 25 = .ok (.getfield 31, 3) := by decide +kernel
theorem d_C_fails_28 : decode b_C_fails 28 = .ok (.getfield 81, 3) := by decide +kernel
theorem d_C_fails_31 : decode b_C_fails 31 = .ok (.ireturn, 1) := by decide +kernel
theorem d_C_work_0 : decode b_C_work 0 = .ok (.aload_n 0, 1) := by decide +kernel
theorem d_C_work_1 : decode b_C_work 1 = .ok (.iload_n 1, 1) := by decide +kernel
theorem d_C_work_2 : decode b_C_work 2 = .ok (.iload_n 2, 1) := by decide +kernel
theorem d_C_work_3 : decode b_C_work 3 = .ok (.iload_n 3, 1) := by decide +kernel
theorem d_C_work_4 : decode b_C_work 4 = .ok (.iload 4, 2) := by decide +kernel
theorem d_C_work_6 : decode b_C_work 6 = .ok (.invokevirtual 70, 3) := by decide +kernel
theorem d_C_work_9 : decode b_C_work 9 = .ok (.ifCond .ne 5, 3) := by decide +kernel
theorem d_C_work_12 : decode b_C_work 12 = .ok (.iconst (-1), 1) := by decide +kernel
theorem d_C_work_13 : decode b_C_work 13 = .ok (.ireturn, 1) := by decide +kernel
theorem d_C_work_14 : decode b_C_work 14 = .ok (.aload_n 0, 1) := by decide +kernel
theorem d_C_work_15 : decode b_C_work 15 = .ok (.iload_n 1, 1) := by decide +kernel
theorem d_C_work_16 : decode b_C_work 16 = .ok (.iload_n 2, 1) := by decide +kernel
theorem d_C_work_17 : decode b_C_work 17 = .ok (.iload_n 3, 1) := by decide +kernel
theorem d_C_work_18 : decode b_C_work 18 = .ok (.iload 4, 2) := by decide +kernel
theorem d_C_work_20 : decode b_C_work 20 = .ok (.iconst (-1), 1) := by decide +kernel
theorem d_C_work_21 : decode b_C_work 21 = .ok (.invokevirtual 74, 3) := by decide +kernel
theorem d_C_work_24 : decode b_C_work 24 = .ok (.aload_n 0, 1) := by decide +kernel
theorem d_C_work_25 : decode b_C_work 25 = .ok (.getfield 31, 3) := by decide +kernel
theorem d_C_work_28 : decode b_C_work 28 = .ok (.getfield 84, 3) := by decide +kernel
theorem d_C_work_31 : decode b_C_work 31 = .ok (.ireturn, 1) := by decide +kernel
theorem d_C_first_0 : decode b_C_first 0 = .ok (.aload_n 0, 1) := by decide +kernel
theorem d_C_first_1 : decode b_C_first 1 = .ok (.iload_n 1, 1) := by decide +kernel
theorem d_C_first_2 : decode b_C_first 2 = .ok (.iload_n 2, 1) := by decide +kernel
theorem d_C_first_3 : decode b_C_first 3 = .ok (.iload_n 3, 1) := by decide +kernel
theorem d_C_first_4 : decode b_C_first 4 = .ok (.invokevirtual 54, 3) := by decide +kernel
theorem d_C_first_7 : decode b_C_first 7 = .ok (.ifCond .ne 5, 3) := by decide +kernel
theorem d_C_first_10 : decode b_C_first 10 = .ok (.iconst (-1), 1) := by decide +kernel
theorem d_C_first_11 : decode b_C_first 11 = .ok (.ireturn, 1) := by decide +kernel
theorem d_C_first_12 : decode b_C_first 12 = .ok (.aload_n 0, 1) := by decide +kernel
theorem d_C_first_13 : decode b_C_first 13 = .ok (.iload_n 1, 1) := by decide +kernel
theorem d_C_first_14 : decode b_C_first 14 = .ok (.iload_n 2, 1) := by decide +kernel
theorem d_C_first_15 : decode b_C_first 15 = .ok (.iload_n 3, 1) := by decide +kernel
theorem d_C_first_16 : decode b_C_first 16 = .ok (.bipush 12, 2) := by decide +kernel
theorem d_C_first_18 : decode b_C_first 18 = .ok (.iload 4, 2) := by decide +kernel
theorem d_C_first_20 : decode b_C_first 20 = .ok (.invokevirtual 74, 3) := by decide +kernel
theorem d_C_first_23 : decode b_C_first 23 = .ok (.aload_n 0, 1) := by decide +kernel
theorem d_C_first_24 : decode b_C_first 24 = .ok (.getfield 31, 3) := by decide +kernel
theorem d_C_first_27 : decode b_C_first 27 = .ok (.getfield 87, 3) := by decide +kernel
theorem d_C_first_30 : decode b_C_first 30 = .ok (.ireturn, 1) := by decide +kernel
theorem d_C_isWithin_0 : decode b_C_isWithin 0 = .ok (.iload_n 0, 1) := by decide +kernel
theorem d_C_isWithin_1 : decode b_C_isWithin 1 = .ok (.iload_n 1, 1) := by decide +kernel
theorem d_C_isWithin_2 : decode b_C_isWithin 2 = .ok (.if_icmp .lt 12, 3) := by decide +kernel
theorem d_C_isWithin_5 : decode b_C_isWithin 5 = .ok (.iload_n 0, 1) := by decide +kernel
theorem d_C_isWithin_6 : decode b_C_isWithin 6 = .ok (.iload_n 2, 1) := by decide +kernel
theorem d_C_isWithin_7 : decode b_C_isWithin 7 = .ok (.if_icmp .gt 7, 3) := by decide +kernel
theorem d_C_isWithin_10 : decode b_C_isWithin 10 = .ok (.iconst 1, 1) := by decide +kernel
theorem d_C_isWithin_11 : decode b_C_isWithin 11 = .ok (.goto 4, 3) := by decide +kernel
theorem d_C_isWithin_14 : decode b_C_isWithin 14 = .ok (.iconst 0, 1) := by decide +kernel
theorem d_C_isWithin_15 : decode b_C_isWithin 15 = .ok (.ireturn, 1) := by decide +kernel
theorem d_C_isCountable_0 : decode b_C_isCountable 0 = .ok (.iload 4, 2) := by decide +kernel
theorem d_C_isCountable_2 : decode b_C_isCountable 2 = .ok (.iconst 0, 1) := by decide +kernel
theorem d_C_isCountable_3 : decode b_C_isCountable 3 = .ok (.bipush 12, 2) := by decide +kernel
theorem d_C_isCountable_5 : decode b_C_isCountable 5 = .ok (.invokestatic 39, 3) := by decide +kernel
theorem d_C_isCountable_8 : decode b_C_isCountable 8 = .ok (.ifCond .eq 17, 3) := by decide +kernel
theorem d_C_isCountable_11 : decode b_C_isCountable 11 = .ok (.aload_n 0, 1) := by decide +kernel
theorem d_C_isCountable_12 : decode b_C_isCountable 12 = .ok (.iload_n 1, 1) := by decide +kernel
theorem d_C_isCountable_13 : decode b_C_isCountable 13 = .ok (.iload_n 2, 1) := by decide +kernel
theorem d_C_isCountable_14 : decode b_C_isCountable 14 = .ok (.iload_n 3, 1) := by decide +kernel
theorem d_C_isCountable_15 : decode b_C_isCountable 15 = .ok (.invokevirtual 54, 3) := by decide +kernel
theorem d_C_isCountable_18 : decode b_C_isCountable 18 = .ok (.ifCond .eq 7, 3) := by decide +kernel
theorem d_C_isCountable_21 : decode b_C_isCountable 21 = .ok (.iconst 1, 1) := by decide +kernel
theorem d_C_isCountable_22 : decode b_C_isCountable 22 = .ok (.goto 4, 3) := by decide +kernel
theorem d_C_isCountable_25 : decode b_C_isCountable 25 = .ok (.iconst 0, 1) := by decide +kernel
theorem d_C_isCountable_26 : decode b_C_isCountable 26 = .ok (.ireturn, 1) := by decide +kernel
theorem d_C_weightSum_0 : decode b_C_weightSum 0 = .ok (.iconst 0, 1) := by decide +kernel
theorem d_C_weightSum_1 : decode b_C_weightSum 1 = .ok (.istore_n 1, 1) := by decide +kernel
theorem d_C_weightSum_2 : decode b_C_weightSum 2 = .ok (.iconst 0, 1) := by decide +kernel
theorem d_C_weightSum_3 : decode b_C_weightSum 3 = .ok (.istore_n 2, 1) := by decide +kernel
theorem d_C_weightSum_4 : decode b_C_weightSum 4 = .ok (.iload_n 2, 1) := by decide +kernel
theorem d_C_weightSum_5 : decode b_C_weightSum 5 = .ok (.bipush 8, 2) := by decide +kernel
theorem d_C_weightSum_7 : decode b_C_weightSum 7 = .ok (.if_icmp .ge 18, 3) := by decide +kernel
theorem d_C_weightSum_10 : decode b_C_weightSum 10 = .ok (.iload_n 1, 1) := by decide +kernel
theorem d_C_weightSum_11 : decode b_C_weightSum 11 = .ok (.aload_n 0, 1) := by decide +kernel
theorem d_C_weightSum_12 : decode b_C_weightSum 12 = .ok (.getfield 9, 3) := by decide +kernel
theorem d_C_weightSum_15 : decode b_C_weightSum 15 = .ok (.iload_n 2, 1) := by decide +kernel
theorem d_C_weightSum_16 : decode b_C_weightSum 16 = .ok (.iaload, 1) := by decide +kernel
theorem d_C_weightSum_17 : decode b_C_weightSum 17 = .ok (.iadd, 1) := by decide +kernel
theorem d_C_weightSum_18 : decode b_C_weightSum 18 = .ok (.istore_n 1, 1) := by decide +kernel
theorem d_C_weightSum_19 : decode b_C_weightSum 19 = .ok (.iinc 2 1, 3) := by decide +kernel
theorem d_C_weightSum_22 : decode b_C_weightSum 22 = .ok (.goto (-18), 3) := by decide +kernel
theorem d_C_weightSum_25 : decode b_C_weightSum 25 = .ok (.iload_n 1, 1) := by decide +kernel
theorem d_C_weightSum_26 : decode b_C_weightSum 26 = .ok (.ireturn, 1) := by decide +kernel
theorem d_C_tryAllTapes_0 : decode b_C_tryAllTapes 0 = .ok (.aload_n 0, 1) := by decide +kernel
theorem d_C_tryAllTapes_1 : decode b_C_tryAllTapes 1 = .ok (.getfield 31, 3) := by decide +kernel
theorem d_C_tryAllTapes_4 : decode b_C_tryAllTapes 4 = .ok (.invokevirtual 90, 3) := by decide +kernel
theorem d_C_tryAllTapes_7 : decode b_C_tryAllTapes 7 = .ok (.iconst 1, 1) := by decide +kernel
theorem d_C_tryAllTapes_8 : decode b_C_tryAllTapes 8 = .ok (.iload 4, 2) := by decide +kernel
theorem d_C_tryAllTapes_10 : decode b_C_tryAllTapes 10 = .ok (.ishl, 1) := by decide +kernel
theorem d_C_tryAllTapes_11 : decode b_C_tryAllTapes 11 = .ok (.istore 6, 2) := by decide +kernel
theorem d_C_tryAllTapes_13 : decode b_C_tryAllTapes 13 = .ok (.iconst 1, 1) := by decide +kernel
theorem d_C_tryAllTapes_14 : decode b_C_tryAllTapes 14 = .ok (.istore 7, 2) := by decide +kernel
theorem d_C_tryAllTapes_16 : decode b_C_tryAllTapes 16 = .ok (.iconst 0, 1) := by decide +kernel
theorem d_C_tryAllTapes_17 : decode b_C_tryAllTapes 17 = .ok (.istore 8, 2) := by decide +kernel
theorem d_C_tryAllTapes_19 : decode b_C_tryAllTapes 19 = .ok (.iload 8, 2) := by decide +kernel
theorem d_C_tryAllTapes_21 : decode b_C_tryAllTapes 21 = .ok (.iload 6, 2) := by decide +kernel
theorem d_C_tryAllTapes_23 : decode b_C_tryAllTapes 23 = .ok (.if_icmp .ge 83, 3) := by decide +kernel
theorem d_C_tryAllTapes_26 : decode b_C_tryAllTapes 26 = .ok (.aload_n 0, 1) := by decide +kernel
theorem d_C_tryAllTapes_27 : decode b_C_tryAllTapes 27 = .ok (.getfield 25, 3) := by decide +kernel
theorem d_C_tryAllTapes_30 : decode b_C_tryAllTapes 30 = .ok (.invokevirtual 93, 3) := by decide +kernel
theorem d_C_tryAllTapes_33 : decode b_C_tryAllTapes 33 = .ok (.aload_n 0, 1) := by decide +kernel
theorem d_C_tryAllTapes_34 : decode b_C_tryAllTapes 34 = .ok (.getfield 25, 3) := by decide +kernel
theorem d_C_tryAllTapes_37 : decode b_C_tryAllTapes 37 = .ok (.iload 8, 2) := by decide +kernel
theorem d_C_tryAllTapes_39 : decode b_C_tryAllTapes 39 = .ok (.iload 4, 2) := by decide +kernel
theorem d_C_tryAllTapes_41 : decode b_C_tryAllTapes 41 = .ok (.invokevirtual 43, 3) := by decide +kernel
theorem d_C_tryAllTapes_44 : decode b_C_tryAllTapes 44 = .ok (.pop, 1) := by decide +kernel
theorem d_C_tryAllTapes_45 : decode b_C_tryAllTapes 45 = .ok (.aload_n 0, 1) := by decide +kernel
theorem d_C_tryAllTapes_46 : decode b_C_tryAllTapes 46 = .ok (.aload_n 0, 1) := by decide +kernel
theorem d_C_tryAllTapes_47 : decode b_C_tryAllTapes 47 = .ok (.getfield 25, 3) := by decide +kernel
theorem d_C_tryAllTapes_50 : decode b_C_tryAllTapes 50 = .ok (.iload_n 1, 1) := by decide +kernel
theorem d_C_tryAllTapes_51 : decode b_C_tryAllTapes 51 = .ok (.iload_n 2, 1) := by decide +kernel
theorem d_C_tryAllTapes_52 : decode b_C_tryAllTapes 52 = .ok (.iload_n 3, 1) := by decide +kernel
theorem d_C_tryAllTapes_53 : decode b_C_tryAllTapes 53 = .ok (.invokevirtual 60, 3) := by decide +kernel
theorem d_C_tryAllTapes_56 : decode b_C_tryAllTapes 56 = .ok (.istore 9, 2) := by decide +kernel
theorem d_C_tryAllTapes_58 : decode b_C_tryAllTapes 58 = .ok (.iconst 1, 1) := by decide +kernel
theorem d_C_tryAllTapes_59 : decode b_C_tryAllTapes 59 = .ok (.iload 4, 2) := by decide +kernel
theorem d_C_tryAllTapes_61 : decode b_C_tryAllTapes 61 = .ok (.aload_n 0, 1) := by decide +kernel
theorem d_C_tryAllTapes_62 : decode b_C_tryAllTapes 62 = .ok (.getfield 25, 3) := by decide +kernel
theorem d_C_tryAllTapes_65 : decode b_C_tryAllTapes 65 = .ok (.invokevirtual 64, 3) := by decide +kernel
theorem d_C_tryAllTapes_68 : decode b_C_tryAllTapes 68 = .ok (.isub, 1) := by decide +kernel
theorem d_C_tryAllTapes_69 : decode b_C_tryAllTapes 69 = .ok (.ishl, 1) := by decide +kernel
theorem d_C_tryAllTapes_70 : decode b_C_tryAllTapes 70 = .ok (.istore 7, 2) := by decide +kernel
theorem d_C_tryAllTapes_72 : decode b_C_tryAllTapes 72 = .ok (.aload_n 0, 1) := by decide +kernel
theorem d_C_tryAllTapes_73 : decode b_C_tryAllTapes 73 = .ok (.getfield 31, 3) := by decide +kernel
theorem d_C_tryAllTapes_76 : decode b_C_tryAllTapes 76 = .ok (.iload 9, 2) := by decide +kernel
theorem d_C_tryAllTapes_78 : decode b_C_tryAllTapes 78 = .ok (.iload 5, 2) := by decide +kernel
theorem d_C_tryAllTapes_80 : decode b_C_tryAllTapes 80 = .ok (.aload_n 0, 1) := by decide +kernel
theorem d_C_tryAllTapes_81 : decode b_C_tryAllTapes 81 = .ok (.getfield 25, 3) := by decide +kernel
theorem d_C_tryAllTapes_84 : decode b_C_tryAllTapes 84 = .ok (.invokevirtual 64, 3) := by decide +kernel
theorem d_C_tryAllTapes_87 : decode b_C_tryAllTapes 87 = .ok (.iload 7, 2) := by decide +kernel
theorem d_C_tryAllTapes_89 : decode b_C_tryAllTapes 89 = .ok (.invokevirtual 94, 3) := by decide +kernel
theorem d_C_tryAllTapes_92 : decode b_C_tryAllTapes 92 = .ok (.iload 8, 2) := by decide +kernel
theorem d_C_tryAllTapes_94 : decode b_C_tryAllTapes 94 = .ok (.iconst 1, 1) := by decide +kernel
theorem d_C_tryAllTapes_95 : decode b_C_tryAllTapes 95 = .ok (.iload 7, 2) := by decide +kernel
theorem d_C_tryAllTapes_97 : decode b_C_tryAllTapes 97 = .ok (.invokestatic 98, 3) := by decide +kernel
theorem d_C_tryAllTapes_100 : decode b_C_tryAllTapes 100 = .ok (.iadd, 1) := by decide +kernel
theorem d_C_tryAllTapes_101 : decode b_C_tryAllTapes 101 = .ok (.istore 8, 2) := by decide +kernel
theorem d_C_tryAllTapes_103 : decode b_C_tryAllTapes 103 = .ok (.goto (-84), 3) := by decide +kernel
theorem d_C_tryAllTapes_106 : decode b_C_tryAllTapes 106 = .ok (.return_, 1) := by decide +kernel
theorem d_C_sample_0 : decode b_C_sample 0 = .ok (.iload_n 2, 1) := by decide +kernel
theorem d_C_sample_1 : decode b_C_sample 1 = .ok (.tableswitch 100 0 7 #[47, 53, 59, 67, 73, 79, 86, 94], 47) := by decide +kernel
theorem d_C_sample_48 : decode b_C_sample 48 = .ok (.aload_n 1, 1) := by decide +kernel
theorem d_C_sample_49 : decode b_C_sample 49 = .ok (.iload_n 3, 1) := by decide +kernel
theorem d_C_sample_50 : decode b_C_sample 50 = .ok (.invokestatic 104, 3) := by decide +kernel
theorem d_C_sample_53 : decode b_C_sample 53 = .ok (.ireturn, 1) := by decide +kernel
theorem d_C_sample_54 : decode b_C_sample 54 = .ok (.aload_n 1, 1) := by decide +kernel
theorem d_C_sample_55 : decode b_C_sample 55 = .ok (.iload_n 3, 1) := by decide +kernel
theorem d_C_sample_56 : decode b_C_sample 56 = .ok (.invokestatic 108, 3) := by decide +kernel
theorem d_C_sample_59 : decode b_C_sample 59 = .ok (.ireturn, 1) := by decide +kernel
theorem d_C_sample_60 : decode b_C_sample 60 = .ok (.aload_n 1, 1) := by decide +kernel
theorem d_C_sample_61 : decode b_C_sample 61 = .ok (.iload_n 3, 1) := by decide +kernel
theorem d_C_sample_62 : decode b_C_sample 62 = .ok (.iload 4, 2) := by decide +kernel
theorem d_C_sample_64 : decode b_C_sample 64 = .ok (.invokestatic 111, 3) := by decide +kernel
theorem d_C_sample_67 : decode b_C_sample 67 = .ok (.ireturn, 1) := by decide +kernel
theorem d_C_sample_68 : decode b_C_sample 68 = .ok (.aload_n 1, 1) := by decide +kernel
theorem d_C_sample_69 : decode b_C_sample 69 = .ok (.iload_n 3, 1) := by decide +kernel
theorem d_C_sample_70 : decode b_C_sample 70 = .ok (.invokestatic 115, 3) := by decide +kernel
theorem d_C_sample_73 : decode b_C_sample 73 = .ok (.ireturn, 1) := by decide +kernel
theorem d_C_sample_74 : decode b_C_sample 74 = .ok (.aload_n 1, 1) := by decide +kernel
theorem d_C_sample_75 : decode b_C_sample 75 = .ok (.iload_n 3, 1) := by decide +kernel
theorem d_C_sample_76 : decode b_C_sample 76 = .ok (.invokestatic 118, 3) := by decide +kernel
theorem d_C_sample_79 : decode b_C_sample 79 = .ok (.ireturn, 1) := by decide +kernel
theorem d_C_sample_80 : decode b_C_sample 80 = .ok (.aload_n 0, 1) := by decide +kernel
theorem d_C_sample_81 : decode b_C_sample 81 = .ok (.aload_n 1, 1) := by decide +kernel
theorem d_C_sample_82 : decode b_C_sample 82 = .ok (.iload_n 3, 1) := by decide +kernel
theorem d_C_sample_83 : decode b_C_sample 83 = .ok (.invokevirtual 121, 3) := by decide +kernel
theorem d_C_sample_86 : decode b_C_sample 86 = .ok (.ireturn, 1) := by decide +kernel
theorem d_C_sample_87 : decode b_C_sample 87 = .ok (.aload_n 1, 1) := by decide +kernel
theorem d_C_sample_88 : decode b_C_sample 88 = .ok (.iload_n 3, 1) := by decide +kernel
theorem d_C_sample_89 : decode b_C_sample 89 = .ok (.iload 4, 2) := by decide +kernel
theorem d_C_sample_91 : decode b_C_sample 91 = .ok (.invokestatic 124, 3) := by decide +kernel
theorem d_C_sample_94 : decode b_C_sample 94 = .ok (.ireturn, 1) := by decide +kernel
theorem d_C_sample_95 : decode b_C_sample 95 = .ok (.aload_n 0, 1) := by decide +kernel
theorem d_C_sample_96 : decode b_C_sample 96 = .ok (.aload_n 1, 1) := by decide +kernel
theorem d_C_sample_97 : decode b_C_sample 97 = .ok (.invokevirtual 127, 3) := by decide +kernel
theorem d_C_sample_100 : decode b_C_sample 100 = .ok (.ireturn, 1) := by decide +kernel
theorem d_C_sample_101 : decode b_C_sample 101 = .ok (.iconst (-1), 1) := by decide +kernel
theorem d_C_sample_102 : decode b_C_sample 102 = .ok (.ireturn, 1) := by decide +kernel
theorem d_C_plain_0 : decode b_C_plain 0 = .ok (.iload_n 1, 1) := by decide +kernel
theorem d_C_plain_1 : decode b_C_plain 1 = .ok (.invokestatic 131, 3) := by decide +kernel
theorem d_C_plain_4 : decode b_C_plain 4 = .ok (.istore_n 2, 1) := by decide +kernel
