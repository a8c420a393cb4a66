theorem d_M_init_0 : decode b_M_init 0 = .ok (.aload_n 0, 1) := by decide +kernel
theorem d_M_init_1 : decode b_M_init 1 = .ok (.invokespecial 1, 3) := by decide +kernel
theorem d_M_init_4 : decode b_M_init 4 = .ok (.aload_n 0, 1) := by decide +kernel
theorem d_M_init_5 : decode b_M_init 5 = .ok (.bipush 8, 2) := by decide +kernel
theorem d_M_init_7 : decode b_M_init 7 = .ok (.newarray .int, 2) := by decide +kernel
theorem d_M_init_9 : decode b_M_init 9 = .ok (.putfield 7, 3) := by decide +kernel
theorem d_M_init_12 : decode b_M_init 12 = .ok (.aload_n 0, 1) := by decide +kernel
theorem d_M_init_13 : decode b_M_init 13 = .ok (.sipush 256, 3) := by decide +kernel
theorem d_M_init_16 : decode b_M_init 16 = .ok (.newarray .int, 2) := by decide +kernel
theorem d_M_init_18 : decode b_M_init 18 = .ok (.putfield 13, 3) := by decide +kernel
theorem d_M_init_21 : decode b_M_init 21 = .ok (.aload_n 0, 1) := by decide +kernel
theorem d_M_init_22 : decode b_M_init 22 = .ok (.sipush 256, 3) := by decide +kernel
theorem d_M_init_25 : decode b_M_init 25 = .ok (.newarray .int, 2) := by decide +kernel
theorem d_M_init_27 : decode b_M_init 27 = .ok (.putfield 16, 3) := by decide +kernel
theorem d_M_init_30 : decode b_M_init 30 = .ok (.aload_n 0, 1) := by decide +kernel
theorem d_M_init_31 : decode b_M_init 31 = .ok (.iconst 4, 1) := by decide +kernel
theorem d_M_init_32 : decode b_M_init 32 = .ok (.newarray .int, 2) := by decide +kernel
theorem d_M_init_34 : decode b_M_init 34 = .ok (.putfield 19, 3) := by decide +kernel
theorem d_M_init_37 : decode b_M_init 37 = .ok (.iconst 0, 1) := by decide +kernel
theorem d_M_init_38 : decode b_M_init 38 = .ok (.istore_n 1, 1) := by decide +kernel
theorem d_M_init_39 : decode b_M_init 39 = .ok (.iload_n 1, 1) := by decide +kernel
theorem d_M_init_40 : decode b_M_init 40 = .ok (.bipush 8, 2) := by decide +kernel
theorem d_M_init_42 : decode b_M_init 42 = .ok (.if_icmp .ge 16, 3) := by decide +kernel
theorem d_M_init_45 : decode b_M_init 45 = .ok (.aload_n 0, 1) := by decide +kernel
theorem d_M_init_46 : decode b_M_init 46 = .ok (.getfield 7, 3) := by decide +kernel
theorem d_M_init_49 : decode b_M_init 49 = .ok (.iload_n 1, 1) := by decide +kernel
theorem d_M_init_50 : decode b_M_init 50 = .ok (.iconst 1, 1) := by decide +kernel
theorem d_M_init_51 : decode b_M_init 51 = .ok (.iastore, 1) := by decide +kernel
theorem d_M_init_52 : decode b_M_init 52 = .ok (.iinc 1 1, 3) := by decide +kernel
theorem d_M_init_55 : decode b_M_init 55 = .ok (.goto (-16), 3) := by decide +kernel
theorem d_M_init_58 : decode b_M_init 58 = .ok (.return_, 1) := by decide +kernel
theorem d_M_weigh_0 : decode b_M_weigh 0 = .ok (.iload_n 1, 1) := by decide +kernel
theorem d_M_weigh_1 : decode b_M_weigh 1 = .ok (.ifCond .lt 19, 3) := by decide +kernel
theorem d_M_weigh_4 : decode b_M_weigh 4 = .ok (.iload_n 1, 1) := by decide +kernel
theorem d_M_weigh_5 : decode b_M_weigh 5 = .ok (.bipush 7, 2) := by decide +kernel
theorem d_M_weigh_7 : decode b_M_weigh 7 = .ok (.if_icmp .gt 13, 3) := by decide +kernel
theorem d_M_weigh_10 : decode b_M_weigh 10 = .ok (.iload_n 2, 1) := by decide +kernel
theorem d_M_weigh_11 : decode b_M_weigh 11 = .ok (.ifCond .lt 9, 3) := by decide +kernel
theorem d_M_weigh_14 : decode b_M_weigh 14 = .ok (.iload_n 2, 1) := by decide +kernel
theorem d_M_weigh_15 : decode b_M_weigh 15 = .ok (.bipush 15, 2) := by decide +kernel
theorem d_M_weigh_17 : decode b_M_weigh 17 = .ok (.if_icmp .le 5, 3) := by decide +kernel
theorem d_M_weigh_20 : decode b_M_weigh 20 = .ok (.iconst 0, 1) := by decide +kernel
theorem d_M_weigh_21 : decode b_M_weigh 21 = .ok (.ireturn, 1) := by decide +kernel
theorem d_M_weigh_22 : decode b_M_weigh 22 = .ok (.aload_n 0, 1) := by decide +kernel
theorem d_M_weigh_23 : decode b_M_weigh 23 = .ok (.getfield 7, 3) := by decide +kernel
theorem d_M_weigh_26 : decode b_M_weigh 26 = .ok (.iload_n 1, 1) := by decide +kernel
theorem d_M_weigh_27 : decode b_M_weigh 27 = .ok (.iload_n 2, 1) := by decide +kernel
theorem d_M_weigh_28 : decode b_M_weigh 28 = .ok (.iastore, 1) := by decide +kernel
theorem d_M_weigh_29 : decode b_M_weigh 29 = .ok (.iconst 1, 1) := by decide +kernel
theorem d_M_weigh_30 : decode b_M_weigh 30 = .ok (.ireturn, 1) := by decide +kernel
theorem d_M_weight_0 : decode b_M_weight 0 = .ok (.iload_n 1, 1) := by decide +kernel
theorem d_M_weight_1 : decode b_M_weight 1 = .ok (.ifCond .lt 9, 3) := by decide +kernel
theorem d_M_weight_4 : decode b_M_weight 4 = .ok (.iload_n 1, 1) := by decide +kernel
theorem d_M_weight_5 : decode b_M_weight 5 = .ok (.bipush 7, 2) := by decide +kernel
theorem d_M_weight_7 : decode b_M_weight 7 = .ok (.if_icmp .le 7, 3) := by decide +kernel
theorem d_M_weight_10 : decode b_M_weight 10 = .ok (.iconst (-1), 1) := by decide +kernel
theorem d_M_weight_11 : decode b_M_weight 11 = .ok (.goto 9, 3) := by decide +kernel
theorem d_M_weight_14 : decode b_M_weight 14 = .ok (.aload_n 0, 1) := by decide +kernel
theorem d_M_weight_15 : decode b_M_weight 15 = .ok (.getfield 7, 3) := by decide +kernel
theorem d_M_weight_18 : decode b_M_weight 18 = .ok (.iload_n 1, 1) := by decide +kernel
theorem d_M_weight_19 : decode b_M_weight 19 = .ok (.iaload, 1) := by decide +kernel
theorem d_M_weight_20 : decode b_M_weight 20 = .ok (.ireturn, 1) := by decide +kernel
theorem d_M_feed_0 : decode b_M_feed 0 = .ok (.iload_n 2, 1) := by decide +kernel
theorem d_M_feed_1 : decode b_M_feed 1 = .ok (.ifCond .lt 21, 3) := by decide +kernel
theorem d_M_feed_4 : decode b_M_feed 4 = .ok (.iload_n 2, 1) := by decide +kernel
theorem d_M_feed_5 : decode b_M_feed 5 = .ok (.bipush 32, 2) := by decide +kernel
theorem d_M_feed_7 : decode b_M_feed 7 = .ok (.if_icmp .gt 15, 3) := by decide +kernel
theorem d_M_feed_10 : decode b_M_feed 10 = .ok (.aload_n 0, 1) := by decide +kernel
theorem d_M_feed_11 : decode b_M_feed 11 = .ok (.getfield 22, 3) := by decide +kernel
theorem d_M_feed_14 : decode b_M_feed 14 = .ok (.iload_n 2, 1) := by decide +kernel
theorem d_M_feed_15 : decode b_M_feed 15 = .ok (.iadd, 1) := by decide +kernel
theorem d_M_feed_16 : decode b_M_feed 16 = .ok (.sipush 256, 3) := by decide +kernel
theorem d_M_feed_19 : decode b_M_feed 19 = .ok (.if_icmp .le 5, 3) := by decide +kernel
theorem d_M_feed_22 : decode b_M_feed 22 = .ok (.iconst (-1), 1) := by decide +kernel
theorem d_M_feed_23 : decode b_M_feed 23 = .ok (.ireturn, 1) := by decide +kernel
theorem d_M_feed_24 : decode b_M_feed 24 = .ok (.iload_n 2, 1) := by decide +kernel
theorem d_M_feed_25 : decode b_M_feed 25 = .ok (.iconst 1, 1) := by decide +kernel
theorem d_M_feed_26 : decode b_M_feed 26 = .ok (.isub, 1) := by decide +kernel
theorem d_M_feed_27 : decode b_M_feed 27 = .ok (.istore_n 3, 1) := by decide +kernel
theorem d_M_feed_28 : decode b_M_feed 28 = .ok (.iload_n 3, 1) := by decide +kernel
theorem d_M_feed_29 : decode b_M_feed 29 = .ok (.ifCond .lt 33, 3) := by decide +kernel
theorem d_M_feed_32 : decode b_M_feed 32 = .ok (.aload_n 0, 1) := by decide +kernel
theorem d_M_feed_33 : decode b_M_feed 33 = .ok (.getfield 13, 3) := by decide +kernel
theorem d_M_feed_36 : decode b_M_feed 36 = .ok (.aload_n 0, 1) := by decide +kernel
theorem d_M_feed_37 : decode b_M_feed 37 = .ok (.getfield 22, 3) := by decide +kernel
theorem d_M_feed_40 : decode b_M_feed 40 = .ok (.iload_n 1, 1) := by decide +kernel
theorem d_M_feed_41 : decode b_M_feed 41 = .ok (.iload_n 3, 1) := by decide +kernel
theorem d_M_feed_42 : decode b_M_feed 42 = .ok (.ishr, 1) := by decide +kernel
theorem d_M_feed_43 : decode b_M_feed 43 = .ok (.iconst 1, 1) := by decide +kernel
theorem d_M_feed_44 : decode b_M_feed 44 = .ok (.iand, 1) := by decide +kernel
theorem d_M_feed_45 : decode b_M_feed 45 = .ok (.iastore, 1) := by decide +kernel
theorem d_M_feed_46 : decode b_M_feed 46 = .ok (.aload_n 0, 1) := by decide +kernel
theorem d_M_feed_47 : decode b_M_feed 47 = .ok (.dup, 1) := by decide +kernel
theorem d_M_feed_48 : decode b_M_feed 48 = .ok (.getfield 22, 3) := by decide +kernel
theorem d_M_feed_51 : decode b_M_feed 51 = .ok (.iconst 1, 1) := by decide +kernel
theorem d_M_feed_52 : decode b_M_feed 52 = .ok (.iadd, 1) := by decide +kernel
theorem d_M_feed_53 : decode b_M_feed 53 = .ok (.putfield 22, 3) := by decide +kernel
theorem d_M_feed_56 : decode b_M_feed 56 = .ok (.iinc 3 (-1), 3) := by decide +kernel
theorem d_M_feed_59 : decode b_M_feed 59 = .ok (.goto (-31), 3) := by decide +kernel
theorem d_M_feed_62 : decode b_M_feed 62 = .ok (.aload_n 0, 1) := by decide +kernel
theorem d_M_feed_63 : decode b_M_feed 63 = .ok (.getfield 22, 3) := by decide +kernel
theorem d_M_feed_66 : decode b_M_feed 66 = .ok (.ireturn, 1) := by decide +kernel
theorem d_M_left_0 : decode b_M_left 0 = .ok (.aload_n 0, 1) := by decide +kernel
theorem d_M_left_1 : decode b_M_left 1 = .ok (.getfield 22, 3) := by decide +kernel
theorem d_M_left_4 : decode b_M_left 4 = .ok (.ireturn, 1) := by decide +kernel
theorem d_M_sum_0 : decode b_M_sum 0 = .ok (.iconst 0, 1) := by decide +kernel
theorem d_M_sum_1 : decode b_M_sum 1 = .ok (.istore_n 1, 1) := by decide +kernel
theorem d_M_sum_2 : decode b_M_sum 2 = .ok (.iconst 0, 1) := by decide +kernel
theorem d_M_sum_3 : decode b_M_sum 3 = .ok (.istore_n 2, 1) := by decide +kernel
theorem d_M_sum_4 : decode b_M_sum 4 = .ok (.iload_n 2, 1) := by decide +kernel
theorem d_M_sum_5 : decode b_M_sum 5 = .ok (.bipush 8, 2) := by decide +kernel
theorem d_M_sum_7 : decode b_M_sum 7 = .ok (.if_icmp .ge 18, 3) := by decide +kernel
theorem d_M_sum_10 : decode b_M_sum 10 = .ok (.iload_n 1, 1) := by decide +kernel
theorem d_M_sum_11 : decode b_M_sum 11 = .ok (.aload_n 0, 1) := by decide +kernel
theorem d_M_sum_12 : decode b_M_sum 12 = .ok (.getfield 7, 3) := by decide +kernel
theorem d_M_sum_15 : decode b_M_sum 15 = .ok (.iload_n 2, 1) := by decide +kernel
theorem d_M_sum_16 : decode b_M_sum 16 = .ok (.iaload, 1) := by decide +kernel
theorem d_M_sum_17 : decode b_M_sum 17 = .ok (.iadd, 1) := by decide +kernel
theorem d_M_sum_18 : decode b_M_sum 18 = .ok (.istore_n 1, 1) := by decide +kernel
theorem d_M_sum_19 : decode b_M_sum 19 = .ok (.iinc 2 1, 3) := by decide +kernel
theorem d_M_sum_22 : decode b_M_sum 22 = .ok (.goto (-18), 3) := by decide +kernel
theorem d_M_sum_25 : decode b_M_sum 25 = .ok (.iload_n 1, 1) := by decide +kernel
theorem d_M_sum_26 : decode b_M_sum 26 = .ok (.ireturn, 1) := by decide +kernel
theorem d_M_isOne_0 : decode b_M_isOne 0 = .ok (.iload_n 1, 1) := by decide +kernel
theorem d_M_isOne_1 : decode b_M_isOne 1 = .ok (.tableswitch 171 0 7 #[47, 47, 64, 90, 90, 106, 122, 148], 47) := by decide +kernel
theorem d_M_isOne_48 : decode b_M_isOne 48 = .ok (.iload_n 2, 1) := by decide +kernel
theorem d_M_isOne_49 : decode b_M_isOne 49 = .ok (.iconst 1, 1) := by decide +kernel
theorem d_M_isOne_50 : decode b_M_isOne 50 = .ok (.if_icmp .lt 13, 3) := by decide +kernel
theorem d_M_isOne_53 : decode b_M_isOne 53 = .ok (.iload_n 2, 1) := by decide +kernel
theorem d_M_isOne_54 : decode b_M_isOne 54 = .ok (.bipush 64, 2) := by decide +kernel
theorem d_M_isOne_56 : decode b_M_isOne 56 = .ok (.if_icmp .gt 7, 3) := by decide +kernel
theorem d_M_isOne_59 : decode b_M_isOne 59 = .ok (.iconst 1, 1) := by decide +kernel
theorem d_M_isOne_60 : decode b_M_isOne 60 = .ok (.goto 4, 3) := by decide +kernel
theorem d_M_isOne_63 : decode b_M_isOne 63 = .ok (.iconst 0, 1) := by decide +kernel
theorem d_M_isOne_64 : decode b_M_isOne 64 = .ok (.ireturn, 1) := by decide +kernel
theorem d_M_isOne_65 : decode b_M_isOne 65 = .ok (.iload_n 3, 1) := by decide +kernel
theorem d_M_isOne_66 : decode b_M_isOne 66 = .ok (.iconst 1, 1) := by decide +kernel
theorem d_M_isOne_67 : decode b_M_isOne 67 = .ok (.if_icmp .lt 22, 3) := by decide +kernel
theorem d_M_isOne_70 : decode b_M_isOne 70 = .ok (.iload_n 3, 1) := by decide +kernel
theorem d_M_isOne_71 : decode b_M_isOne 71 = .ok (.bipush 64, 2) := by decide +kernel
theorem d_M_isOne_73 : decode b_M_isOne 73 = .ok (.if_icmp .gt 16, 3) := by decide +kernel
theorem d_M_isOne_76 : decode b_M_isOne 76 = .ok (.iload_n 2, 1) := by decide +kernel
theorem d_M_isOne_77 : decode b_M_isOne 77 = .ok (.ifCond .lt 12, 3) := by decide +kernel
theorem d_M_isOne_80 : decode b_M_isOne 80 = .ok (.iload_n 2, 1) := by decide +kernel
theorem d_M_isOne_81 : decode b_M_isOne 81 = .ok (.iload_n 3, 1) := by decide +kernel
theorem d_M_isOne_82 : decode b_M_isOne 82 = .ok (.if_icmp .gt 7, 3) := by decide +kernel
theorem d_M_isOne_85 : decode b_M_isOne 85 = .ok (.iconst 1, 1) := by decide +kernel
theorem d_M_isOne_86 : decode b_M_isOne 86 = .ok (.goto 4, 3) := by decide +kernel
theorem d_M_isOne_89 : decode b_M_isOne 89 = .ok (.iconst 0, 1) := by decide +kernel
theorem d_M_isOne_90 : decode b_M_isOne 90 = .ok (.ireturn, 1) := by decide +kernel
theorem d_M_isOne_91 : decode b_M_isOne 91 = .ok (.iload_n 2, 1) := by decide +kernel
theorem d_M_isOne_92 : decode b_M_isOne 92 = .ok (.ifCond .lt 13, 3) := by decide +kernel
theorem d_M_isOne_95 : decode b_M_isOne 95 = .ok (.iload_n 2, 1) := by decide +kernel
theorem d_M_isOne_96 : decode b_M_isOne 96 = .ok (.bipush 12, 2) := by decide +kernel
theorem d_M_isOne_98 : decode b_M_isOne 98 = .ok (.if_icmp .gt 7, 3) := by decide +kernel
theorem d_M_isOne_101 : decode b_M_isOne 101 = .ok (.iconst 1, 1) := by decide +kernel
theorem d_M_isOne_102 : decode b_M_isOne 102 = .ok (.goto 4, 3) := by decide +kernel
theorem d_M_isOne_105 : decode b_M_isOne 105 = .ok (.iconst 0, 1) := by decide +kernel
theorem d_M_isOne_106 : decode b_M_isOne 106 = .ok (.ireturn, 1) := by decide +kernel
theorem d_M_isOne_107 : decode b_M_isOne 107 = .ok (.iload_n 2, 1) := by decide +kernel
theorem d_M_isOne_108 : decode b_M_isOne 108 = .ok (.iconst 1, 1) := by decide +kernel
theorem d_M_isOne_109 : decode b_M_isOne 109 = .ok (.if_icmp .lt 12, 3) := by decide +kernel
theorem d_M_isOne_112 : decode b_M_isOne 112 = .ok (.iload_n 2, 1) := by decide +kernel
theorem d_M_isOne_113 : decode b_M_isOne 113 = .ok (.iconst 4, 1) := by decide +kernel
theorem d_M_isOne_114 : decode b_M_isOne 114 = .ok (.if_icmp .gt 7, 3) := by decide +kernel
theorem d_M_isOne_117 : decode b_M_isOne 117 = .ok (.iconst 1, 1) := by decide +kernel
theorem d_M_isOne_118 : decode b_M_isOne 118 = .ok (.goto 4, 3) := by decide +kernel
theorem d_M_isOne_121 : decode b_M_isOne 121 = .ok (.iconst 0, 1) := by decide +kernel
theorem d_M_isOne_122 : decode b_M_isOne 122 = .ok (.ireturn, 1) := by decide +kernel
theorem d_M_isOne_123 : decode b_M_isOne 123 = .ok (.iload_n 2, 1) := by decide +kernel
theorem d_M_isOne_124 : decode b_M_isOne 124 = .ok (.iconst 1, 1) := by decide +kernel
theorem d_M_isOne_125 : decode b_M_isOne 125 = .ok (.if_icmp .lt 22, 3) := by decide +kernel
theorem d_M_isOne_128 : decode b_M_isOne 128 = .ok (.iload_n 2, 1) := by decide +kernel
theorem d_M_isOne_129 : decode b_M_isOne 129 = .ok (.bipush 6, 2) := by decide +kernel
theorem d_M_isOne_131 : decode b_M_isOne 131 = .ok (.if_icmp .gt 16, 3) := by decide +kernel
theorem d_M_isOne_134 : decode b_M_isOne 134 = .ok (.iload_n 3, 1) := by decide +kernel
theorem d_M_isOne_135 : decode b_M_isOne 135 = .ok (.ifCond .lt 12, 3) := by decide +kernel
theorem d_M_isOne_138 : decode b_M_isOne 138 = .ok (.iload_n 3, 1) := by decide +kernel
theorem d_M_isOne_139 : decode b_M_isOne 139 = .ok (.iload_n 2, 1) := by decide +kernel
theorem d_M_isOne_140 : decode b_M_isOne 140 = .ok (.if_icmp .gt 7, 3) := by decide +kernel
theorem d_M_isOne_143 : decode b_M_isOne 143 = .ok (.iconst 1, 1) := by decide +kernel
theorem d_M_isOne_144 : decode b_M_isOne 144 = .ok (.goto 4, 3) := by decide +kernel
theorem d_M_isOne_147 : decode b_M_isOne 147 = .ok (.iconst 0, 1) := by decide +kernel
theorem d_M_isOne_148 : decode b_M_isOne 148 = .ok (.ireturn, 1) := by decide +kernel
theorem d_M_isOne_149 : decode b_M_isOne 149 = .ok (.aload_n 0, 1) := by decide +kernel
theorem d_M_isOne_150 : decode b_M_isOne 150 = .ok (.invokevirtual 26, 3) := by decide +kernel
theorem d_M_isOne_153 : decode b_M_isOne 153 = .ok (.iconst 1, 1) := by decide +kernel
theorem d_M_isOne_154 : decode b_M_isOne 154 = .ok (.if_icmp .lt 16, 3) := by decide +kernel
theorem d_M_isOne_157 : decode b_M_isOne 157 = .ok (.aload_n 0, 1) := by decide +kernel
theorem d_M_isOne_158 : decode b_M_isOne 158 = .ok (.invokevirtual 26, 3) := by decide +kernel
theorem d_M_isOne_161 : decode b_M_isOne 161 = .ok (.bipush 64, 2) := by decide +kernel
theorem d_M_isOne_163 : decode b_M_isOne 163 = .ok (.if_icmp .gt 7, 3) := by decide +kernel
theorem d_M_isOne_166 : decode b_M_isOne 166 = .ok (.iconst 1, 1) := by decide +kernel
theorem d_M_isOne_167 : decode b_M_isOne 167 = .ok (.goto 4, 3) := by decide +kernel
theorem d_M_isOne_170 : decode b_M_isOne 170 = .ok (.iconst 0, 1) := by decide +kernel
theorem d_M_isOne_171 : decode b_M_isOne 171 = .ok (.ireturn, 1) := by decide +kernel
theorem d_M_isOne_172 : decode b_M_isOne 172 = .ok (.iconst 0, 1) := by decide +kernel
theorem d_M_isOne_173 : decode b_M_isOne 173 = .ok (.ireturn, 1) := by decide +kernel
theorem d_M_bit_0 : decode b_M_bit 0 = .ok (.aload_n 0, 1) := by decide +kernel
theorem d_M_bit_1 : decode b_M_bit 1 = .ok (.getfield 30, 3) := by decide +kernel
theorem d_M_bit_4 : decode b_M_bit 4 = .ok (.aload_n 0, 1) := by decide +kernel
theorem d_M_bit_5 : decode b_M_bit 5 = .ok (.getfield 33, 3) := by decide +kernel
theorem d_M_bit_8 : decode b_M_bit 8 = .ok (.if_icmp .ne 10, 3) := by decide +kernel
theorem d_M_bit_11 : decode b_M_bit 11 = .ok (.aload_n 0, 1) := by decide +kernel
theorem d_M_bit_12 : decode b_M_bit 12 = .ok (.iconst 1, 1) := by decide +kernel
theorem d_M_bit_13 : decode b_M_bit 13 = .ok (.putfield 36, 3) := by decide +kernel
theorem d_M_bit_16 : decode b_M_bit 16 = .ok (.iconst 0, 1) := by decide +kernel
theorem d_M_bit_17 : decode b_M_bit 17 = .ok (.ireturn, 1) := by decide +kernel
theorem d_M_bit_18 : decode b_M_bit 18 = .ok (.aload_n 0, 1) := by decide +kernel
theorem d_M_bit_19 : decode b_M_bit 19 = .ok (.dup, 1) := by decide +kernel
theorem d_M_bit_20 : decode b_M_bit 20 = .ok (.getfield 30, 3) := by decide +kernel
theorem d_M_bit_23 : decode b_M_bit 23 = .ok (.iconst 1, 1) := by decide +kernel
theorem d_M_bit_24 : decode b_M_bit 24 = .ok (.iadd, 1) := by decide +kernel
theorem d_M_bit_25 : decode b_M_bit 25 = .ok (.putfield 30, 3) := by decide +kernel
theorem d_M_bit_28 : decode b_M_bit 28 = .ok (.aload_n 0, 1) := by decide +kernel
theorem d_M_bit_29 : decode b_M_bit 29 = .ok (.getfield 16, 3) := by decide +kernel
theorem d_M_bit_32 : decode b_M_bit 32 = .ok (.aload_n 0, 1) := by decide +kernel
theorem d_M_bit_33 : decode b_M_bit 33 = .ok (.getfield 30, 3) := by decide +kernel
theorem d_M_bit_36 : decode b_M_bit 36 = .ok (.iconst 1, 1) := by decide +kernel
theorem d_M_bit_37 : decode b_M_bit 37 = .ok (.isub, 1) := by decide +kernel
theorem d_M_bit_38 : decode b_M_bit 38 = .ok (.iaload, 1) := by decide +kernel
theorem d_M_bit_39 : decode b_M_bit 39 = .ok (.ireturn, 1) := by decide +kernel
theorem d_M_plain_0 : decode b_M_plain 0 = .ok (.iload_n 1, 1) := by decide +kernel
theorem d_M_plain_1 : decode b_M_plain 1 = .ok (.istore_n 2, 1) := by decide +kernel
theorem d_M_plain_2 : decode b_M_plain 2 = .ok (.iload_n 2, 1) := by decide +kernel
theorem d_M_plain_3 : decode b_M_plain 3 = .ok (.iload_n 1, 1) := by decide +kernel
theorem d_M_plain_4 : decode b_M_plain 4 = .ok (.if_icmp .lt 45, 3) := by decide +kernel
theorem d_M_plain_7 : decode b_M_plain 7 = .ok (.aload_n 0, 1) := by decide +kernel
theorem d_M_plain_8 : decode b_M_plain 8 = .ok (.getfield 36, 3) := by decide +kernel
theorem d_M_plain_11 : decode b_M_plain 11 = .ok (.ifCond .ne 38, 3) := by decide +kernel
theorem d_M_plain_14 : decode b_M_plain 14 = .ok (.iconst 0, 1) := by decide +kernel
theorem d_M_plain_15 : decode b_M_plain 15 = .ok (.istore_n 2, 1) := by decide +kernel
theorem d_M_plain_16 : decode b_M_plain 16 = .ok (.iconst 1, 1) := by decide +kernel
theorem d_M_plain_17 : decode b_M_plain 17 = .ok (.istore_n 3, 1) := by decide +kernel
theorem d_M_plain_18 : decode b_M_plain 18 = .ok (.iload_n 3, 1) := by decide +kernel
theorem d_M_plain_19 : decode b_M_plain 19 = .ok (.iload_n 1, 1) := by decide +kernel
theorem d_M_plain_20 : decode b_M_plain 20 = .ok (.if_icmp .ge 26, 3) := by decide +kernel
theorem d_M_plain_23 : decode b_M_plain 23 = .ok (.aload_n 0, 1) := by decide +kernel
theorem d_M_plain_24 : decode b_M_plain 24 = .ok (.getfield 36, 3) := by decide +kernel
theorem d_M_plain_27 : decode b_M_plain 27 = .ok (.ifCond .ne 19, 3) := by decide +kernel
theorem d_M_plain_30 : decode b_M_plain 30 = .ok (.iconst 2, 1) := by decide +kernel
theorem d_M_plain_31 : decode b_M_plain 31 = .ok (.iload_n 2, 1) := by decide +kernel
theorem d_M_plain_32 : decode b_M_plain 32 = .ok (.imul, 1) := by decide +kernel
theorem d_M_plain_33 : decode b_M_plain 33 = .ok (.aload_n 0, 1) := by decide +kernel
theorem d_M_plain_34 : decode b_M_plain 34 = .ok (.invokevirtual 40, 3) := by decide +kernel
theorem d_M_plain_37 : decode b_M_plain 37 = .ok (.iadd, 1) := by decide +kernel
theorem d_M_plain_38 : decode b_M_plain 38 = .ok (.istore_n 2, 1) := by decide +kernel
theorem d_M_plain_39 : decode b_M_plain 39 = .ok (.iconst 2, 1) := by decide +kernel
theorem d_M_plain_40 : decode b_M_plain 40 = .ok (.iload_n 3, 1) := by decide +kernel
theorem d_M_plain_41 : decode b_M_plain 41 = .ok (.imul, 1) := by decide +kernel
theorem d_M_plain_42 : decode b_M_plain 42 = .ok (.istore_n 3, 1) := by decide +kernel
theorem d_M_plain_43 : decode b_M_plain 43 = .ok (.goto (-25), 3) := by decide +kernel
theorem d_M_plain_46 : decode b_M_plain 46 = .ok (.goto (-44), 3) := by decide +kernel
theorem d_M_plain_49 : decode b_M_plain 49 = .ok (.iload_n 2, 1) := by decide +kernel
theorem d_M_plain_50 : decode b_M_plain 50 = .ok (.ireturn, 1) := by decide +kernel
theorem d_M_thrifty_0 : decode b_M_thrifty 0 = .ok (.iconst 1, 1) := by decide +kernel
theorem d_M_thrifty_1 : decode b_M_thrifty 1 = .ok (.istore_n 2, 1) := by decide +kernel
theorem d_M_thrifty_2 : decode b_M_thrifty 2 = .ok (.iconst 0, 1) := by decide +kernel
theorem d_M_thrifty_3 : decode b_M_thrifty 3 = .ok (.istore_n 3, 1) := by decide +kernel
theorem d_M_thrifty_4 : decode b_M_thrifty 4 = .ok (.aload_n 0, 1) := by decide +kernel
theorem d_M_thrifty_5 : decode b_M_thrifty 5 = .ok (.getfield 36, 3) := by decide +kernel
theorem d_M_thrifty_8 : decode b_M_thrifty 8 = .ok (.ifCond .ne 49, 3) := by decide +kernel
theorem d_M_thrifty_11 : decode b_M_thrifty 11 = .ok (.iload_n 2, 1) := by decide +kernel
theorem d_M_thrifty_12 : decode b_M_thrifty 12 = .ok (.iload_n 1, 1) := by decide +kernel
theorem d_M_thrifty_13 : decode b_M_thrifty 13 = .ok (.if_icmp .ge 26, 3) := by decide +kernel
theorem d_M_thrifty_16 : decode b_M_thrifty 16 = .ok (.aload_n 0, 1) := by decide +kernel
theorem d_M_thrifty_17 : decode b_M_thrifty 17 = .ok (.getfield 36, 3) := by decide +kernel
theorem d_M_thrifty_20 : decode b_M_thrifty 20 = .ok (.ifCond .ne 19, 3) := by decide +kernel
theorem d_M_thrifty_23 : decode b_M_thrifty 23 = .ok (.iconst 2, 1) := by decide +kernel
theorem d_M_thrifty_24 : decode b_M_thrifty 24 = .ok (.iload_n 2, 1) := by decide +kernel
theorem d_M_thrifty_25 : decode b_M_thrifty 25 = .ok (.imul, 1) := by decide +kernel
theorem d_M_thrifty_26 : decode b_M_thrifty 26 = .ok (.istore_n 2, 1) := by decide +kernel
theorem d_M_thrifty_27 : decode b_M_thrifty 27 = .ok (.iconst 2, 1) := by decide +kernel
theorem d_M_thrifty_28 : decode b_M_thrifty 28 = .ok (.iload_n 3, 1) := by decide +kernel
theorem d_M_thrifty_29 : decode b_M_thrifty 29 = .ok (.imul, 1) := by decide +kernel
theorem d_M_thrifty_30 : decode b_M_thrifty 30 = .ok (.aload_n 0, 1) := by decide +kernel
theorem d_M_thrifty_31 : decode b_M_thrifty 31 = .ok (.invokevirtual 40, 3) := by decide +kernel
theorem d_M_thrifty_34 : decode b_M_thrifty 34 = .ok (.iadd, 1) := by decide +kernel
theorem d_M_thrifty_35 : decode b_M_thrifty 35 = .ok (.istore_n 3, 1) := by decide +kernel
theorem d_M_thrifty_36 : decode b_M_thrifty 36 = .ok (.goto (-25), 3) := by decide +kernel
theorem d_M_thrifty_39 : decode b_M_thrifty 39 = .ok (.iload_n 3, 1) := by decide +kernel
theorem d_M_thrifty_40 : decode b_M_thrifty 40 = .ok (.iload_n 1, 1) := by decide +kernel
theorem d_M_thrifty_41 : decode b_M_thrifty 41 = .ok (.if_icmp .ge 5, 3) := by decide +kernel
theorem d_M_thrifty_44 : decode b_M_thrifty 44 = .ok (.iload_n 3, 1) := by decide +kernel
theorem d_M_thrifty_45 : decode b_M_thrifty 45 = .ok (.ireturn, 1) := by decide +kernel
theorem d_M_thrifty_46 : decode b_M_thrifty 46 = .ok (.iload_n 2, 1) := by decide +kernel
theorem d_M_thrifty_47 : decode b_M_thrifty 47 = .ok (.iload_n 1, 1) := by decide +kernel
theorem d_M_thrifty_48 : decode b_M_thrifty 48 = .ok (.isub, 1) := by decide +kernel
theorem d_M_thrifty_49 : decode b_M_thrifty 49 = .ok (.istore_n 2, 1) := by decide +kernel
theorem d_M_thrifty_50 : decode b_M_thrifty 50 = .ok (.iload_n 3, 1) := by decide +kernel
theorem d_M_thrifty_51 : decode b_M_thrifty 51 = .ok (.iload_n 1, 1) := by decide +kernel
theorem d_M_thrifty_52 : decode b_M_thrifty 52 = .ok (.isub, 1) := by decide +kernel
theorem d_M_thrifty_53 : decode b_M_thrifty 53 = .ok (.istore_n 3, 1) := by decide +kernel
theorem d_M_thrifty_54 : decode b_M_thrifty 54 = .ok (.goto (-50), 3) := by decide +kernel
theorem d_M_thrifty_57 : decode b_M_thrifty 57 = .ok (.iload_n 3, 1) := by decide +kernel
theorem d_M_thrifty_58 : decode b_M_thrifty 58 = .ok (.ireturn, 1) := by decide +kernel
theorem d_M_coin_0 : decode b_M_coin 0 = .ok (.iload_n 1, 1) := by decide +kernel
theorem d_M_coin_1 : decode b_M_coin 1 = .ok (.istore_n 3, 1) := by decide +kernel
theorem d_M_coin_2 : decode b_M_coin 2 = .ok (.iload_n 3, 1) := by decide +kernel
theorem d_M_coin_3 : decode b_M_coin 3 = .ok (.ifCond .le 73, 3) := by decide +kernel
theorem d_M_coin_6 : decode b_M_coin 6 = .ok (.iload_n 3, 1) := by decide +kernel
theorem d_M_coin_7 : decode b_M_coin 7 = .ok (.iload_n 2, 1) := by decide +kernel
theorem d_M_coin_8 : decode b_M_coin 8 = .ok (.if_icmp .ge 68, 3) := by decide +kernel
theorem d_M_coin_11 : decode b_M_coin 11 = .ok (.aload_n 0, 1) := by decide +kernel
theorem d_M_coin_12 : decode b_M_coin 12 = .ok (.getfield 36, 3) := by decide +kernel
theorem d_M_coin_15 : decode b_M_coin 15 = .ok (.ifCond .ne 61, 3) := by decide +kernel
theorem d_M_coin_18 : decode b_M_coin 18 = .ok (.aload_n 0, 1) := by decide +kernel
theorem d_M_coin_19 : decode b_M_coin 19 = .ok (.invokevirtual 40, 3) := by decide +kernel
theorem d_M_coin_22 : decode b_M_coin 22 = .ok (.istore 4, 2) := by decide +kernel
theorem d_M_coin_24 : decode b_M_coin 24 = .ok (.iconst 2, 1) := by decide +kernel
theorem d_M_coin_25 : decode b_M_coin 25 = .ok (.iload_n 3, 1) := by decide +kernel
theorem d_M_coin_26 : decode b_M_coin 26 = .ok (.imul, 1) := by decide +kernel
theorem d_M_coin_27 : decode b_M_coin 27 = .ok (.istore_n 3, 1) := by decide +kernel
theorem d_M_coin_28 : decode b_M_coin 28 = .ok (.iload_n 3, 1) := by decide +kernel
theorem d_M_coin_29 : decode b_M_coin 29 = .ok (.iload_n 2, 1) := by decide +kernel
theorem d_M_coin_30 : decode b_M_coin 30 = .ok (.if_icmp .lt 7, 3) := by decide +kernel
theorem d_M_coin_33 : decode b_M_coin 33 = .ok (.iconst 1, 1) := by decide +kernel
theorem d_M_coin_34 : decode b_M_coin 34 = .ok (.goto 4, 3) := by decide +kernel
theorem d_M_coin_37 : decode b_M_coin 37 = .ok (.iconst 0, 1) := by decide +kernel
theorem d_M_coin_38 : decode b_M_coin 38 = .ok (.istore 5, 2) := by decide +kernel
theorem d_M_coin_40 : decode b_M_coin 40 = .ok (.iload_n 3, 1) := by decide +kernel
theorem d_M_coin_41 : decode b_M_coin 41 = .ok (.iload_n 2, 1) := by decide +kernel
theorem d_M_coin_42 : decode b_M_coin 42 = .ok (.if_icmp .lt 9, 3) := by decide +kernel
theorem d_M_coin_45 : decode b_M_coin 45 = .ok (.iload_n 3, 1) := by decide +kernel
theorem d_M_coin_46 : decode b_M_coin 46 = .ok (.iload_n 2, 1) := by decide +kernel
theorem d_M_coin_47 : decode b_M_coin 47 = .ok (.isub, 1) := by decide +kernel
theorem d_M_coin_48 : decode b_M_coin 48 = .ok (.goto 4, 3) := by decide +kernel
theorem d_M_coin_51 : decode b_M_coin 51 = .ok (.iload_n 3, 1) := by decide +kernel
theorem d_M_coin_52 : decode b_M_coin 52 = .ok (.istore_n 3, 1) := by decide +kernel
theorem d_M_coin_53 : decode b_M_coin 53 = .ok (.iload 4, 2) := by decide +kernel
theorem d_M_coin_55 : decode b_M_coin 55 = .ok (.iload 5, 2) := by decide +kernel
theorem d_M_coin_57 : decode b_M_coin 57 = .ok (.if_icmp .eq 16, 3) := by decide +kernel
theorem d_M_coin_60 : decode b_M_coin 60 = .ok (.iload 4, 2) := by decide +kernel
theorem d_M_coin_62 : decode b_M_coin 62 = .ok (.iload 5, 2) := by decide +kernel
theorem d_M_coin_64 : decode b_M_coin 64 = .ok (.if_icmp .ge 7, 3) := by decide +kernel
theorem d_M_coin_67 : decode b_M_coin 67 = .ok (.iconst 1, 1) := by decide +kernel
theorem d_M_coin_68 : decode b_M_coin 68 = .ok (.goto 4, 3) := by decide +kernel
theorem d_M_coin_71 : decode b_M_coin 71 = .ok (.iconst 0, 1) := by decide +kernel
theorem d_M_coin_72 : decode b_M_coin 72 = .ok (.ireturn, 1) := by decide +kernel
theorem d_M_coin_73 : decode b_M_coin 73 = .ok (.goto (-71), 3) := by decide +kernel
theorem d_M_coin_76 : decode b_M_coin 76 = .ok (.iload_n 3, 1) := by decide +kernel
theorem d_M_coin_77 : decode b_M_coin 77 = .ok (.ifCond .ne 7, 3) := by decide +kernel
theorem d_M_coin_80 : decode b_M_coin 80 = .ok (.iconst 0, 1) := by decide +kernel
theorem d_M_coin_81 : decode b_M_coin 81 = .ok (.goto 4, 3) := by decide +kernel
theorem d_M_coin_84 : decode b_M_coin 84 = .ok (.iconst 1, 1) := by decide +kernel
theorem d_M_coin_85 : decode b_M_coin 85 = .ok (.ireturn, 1) := by decide +kernel
theorem d_M_order_0 : decode b_M_order 0 = .ok (.iconst 0, 1) := by decide +kernel
theorem d_M_order_1 : decode b_M_order 1 = .ok (.istore_n 2, 1) := by decide +kernel
theorem d_M_order_2 : decode b_M_order 2 = .ok (.iload_n 2, 1) := by decide +kernel
theorem d_M_order_3 : decode b_M_order 3 = .ok (.iload_n 1, 1) := by decide +kernel
theorem d_M_order_4 : decode b_M_order 4 = .ok (.if_icmp .ge 16, 3) := by decide +kernel
theorem d_M_order_7 : decode b_M_order 7 = .ok (.aload_n 0, 1) := by decide +kernel
theorem d_M_order_8 : decode b_M_order 8 = .ok (.getfield 19, 3) := by decide +kernel
theorem d_M_order_11 : decode b_M_order 11 = .ok (.iload_n 2, 1) := by decide +kernel
theorem d_M_order_12 : decode b_M_order 12 = .ok (.iload_n 2, 1) := by decide +kernel
theorem d_M_order_13 : decode b_M_order 13 = .ok (.iastore, 1) := by decide +kernel
theorem d_M_order_14 : decode b_M_order 14 = .ok (.iinc 2 1, 3) := by decide +kernel
theorem d_M_order_17 : decode b_M_order 17 = .ok (.goto (-15), 3) := by decide +kernel
theorem d_M_order_20 : decode b_M_order 20 = .ok (.iload_n 1, 1) := by decide +kernel
theorem d_M_order_21 : decode b_M_order 21 = .ok (.iconst 1, 1) := by decide +kernel
theorem d_M_order_22 : decode b_M_order 22 = .ok (.isub, 1) := by decide +kernel
theorem d_M_order_23 : decode b_M_order 23 = .ok (.istore_n 2, 1) := by decide +kernel
theorem d_M_order_24 : decode b_M_order 24 = .ok (.iload_n 2, 1) := by decide +kernel
theorem d_M_order_25 : decode b_M_order 25 = .ok (.ifCond .le 59, 3) := by decide +kernel
theorem d_M_order_28 : decode b_M_order 28 = .ok (.aload_n 0, 1) := by decide +kernel
theorem d_M_order_29 : decode b_M_order 29 = .ok (.getfield 36, 3) := by decide +kernel
theorem d_M_order_32 : decode b_M_order 32 = .ok (.ifCond .ne 52, 3) := by decide +kernel
theorem d_M_order_35 : decode b_M_order 35 = .ok (.aload_n 0, 1) := by decide +kernel
theorem d_M_order_36 : decode b_M_order 36 = .ok (.iload_n 2, 1) := by decide +kernel
theorem d_M_order_37 : decode b_M_order 37 = .ok (.iconst 1, 1) := by decide +kernel
theorem d_M_order_38 : decode b_M_order 38 = .ok (.iadd, 1) := by decide +kernel
theorem d_M_order_39 : decode b_M_order 39 = .ok (.invokevirtual 43, 3) := by decide +kernel
theorem d_M_order_42 : decode b_M_order 42 = .ok (.istore_n 3, 1) := by decide +kernel
theorem d_M_order_43 : decode b_M_order 43 = .ok (.aload_n 0, 1) := by decide +kernel
theorem d_M_order_44 : decode b_M_order 44 = .ok (.getfield 36, 3) := by decide +kernel
theorem d_M_order_47 : decode b_M_order 47 = .ok (.ifCond .ne 31, 3) := by decide +kernel
theorem d_M_order_50 : decode b_M_order 50 = .ok (.aload_n 0, 1) := by decide +kernel
theorem d_M_order_51 : decode b_M_order 51 = .ok (.getfield 19, 3) := by decide +kernel
theorem d_M_order_54 : decode b_M_order 54 = .ok (.iload_n 2, 1) := by decide +kernel
theorem d_M_order_55 : decode b_M_order 55 = .ok (.iaload, 1) := by decide +kernel
theorem d_M_order_56 : decode b_M_order 56 = .ok (.istore 4, 2) := by decide +kernel
theorem d_M_order_58 : decode b_M_order 58 = .ok (.aload_n 0, 1) := by decide +kernel
theorem d_M_order_59 : decode b_M_order 59 = .ok (.getfield 19, 3) := by decide +kernel
theorem d_M_order_62 : decode b_M_order 62 = .ok (.iload_n 2, 1) := by decide +kernel
theorem d_M_order_63 : decode b_M_order 63 = .ok (.aload_n 0, 1) := by decide +kernel
theorem d_M_order_64 : decode b_M_order 64 = .ok (.getfield 19, 3) := by decide +kernel
theorem d_M_order_67 : decode b_M_order 67 = .ok (.iload_n 3, 1) := by decide +kernel
theorem d_M_order_68 : decode b_M_order 68 = .ok (.iaload, 1) := by decide +kernel
theorem d_M_order_69 : decode b_M_order 69 = .ok (.iastore, 1) := by decide +kernel
theorem d_M_order_70 : decode b_M_order 70 = .ok (.aload_n 0, 1) := by decide +kernel
theorem d_M_order_71 : decode b_M_order 71 = .ok (.getfield 19, 3) := by decide +kernel
theorem d_M_order_74 : decode b_M_order 74 = .ok (.iload_n 3, 1) := by decide +kernel
theorem d_M_order_75 : decode b_M_order 75 = .ok (.iload 4, 2) := by decide +kernel
theorem d_M_order_77 : decode b_M_order 77 = .ok (.iastore, 1) := by decide +kernel
theorem d_M_order_78 : decode b_M_order 78 = .ok (.iinc 2 (-1), 3) := by decide +kernel
theorem d_M_order_81 : decode b_M_order 81 = .ok (.goto (-57), 3) := by decide +kernel
theorem d_M_order_84 : decode b_M_order 84 = .ok (.iconst 0, 1) := by decide +kernel
theorem d_M_order_85 : decode b_M_order 85 = .ok (.istore_n 2, 1) := by decide +kernel
theorem d_M_order_86 : decode b_M_order 86 = .ok (.iconst 0, 1) := by decide +kernel
theorem d_M_order_87 : decode b_M_order 87 = .ok (.istore_n 3, 1) := by decide +kernel
