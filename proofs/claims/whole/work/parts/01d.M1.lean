theorem d_M_order_88 : decode b_M_order 88 = .ok (.iload_n 3, 1) := by decide +kernel
theorem d_M_order_89 : decode b_M_order 89 = .ok (.iload_n 1, 1) := by decide +kernel
theorem d_M_order_90 : decode b_M_order 90 = .ok (.if_icmp .ge 75, 3) := by decide +kernel
theorem d_M_order_93 : decode b_M_order 93 = .ok (.iconst 0, 1) := by decide +kernel
theorem d_M_order_94 : decode b_M_order 94 = .ok (.istore 4, 2) := by decide +kernel
theorem d_M_order_96 : decode b_M_order 96 = .ok (.iconst 1, 1) := by decide +kernel
theorem d_M_order_97 : decode b_M_order 97 = .ok (.istore 5, 2) := by decide +kernel
theorem d_M_order_99 : decode b_M_order 99 = .ok (.iload_n 3, 1) := by decide +kernel
theorem d_M_order_100 : decode b_M_order 100 = .ok (.iconst 1, 1) := by decide +kernel
theorem d_M_order_101 : decode b_M_order 101 = .ok (.iadd, 1) := by decide +kernel
theorem d_M_order_102 : decode b_M_order 102 = .ok (.istore 6, 2) := by decide +kernel
theorem d_M_order_104 : decode b_M_order 104 = .ok (.iload 6, 2) := by decide +kernel
theorem d_M_order_106 : decode b_M_order 106 = .ok (.iload_n 1, 1) := by decide +kernel
theorem d_M_order_107 : decode b_M_order 107 = .ok (.if_icmp .ge 44, 3) := by decide +kernel
theorem d_M_order_110 : decode b_M_order 110 = .ok (.iload 4, 2) := by decide +kernel
theorem d_M_order_112 : decode b_M_order 112 = .ok (.aload_n 0, 1) := by decide +kernel
theorem d_M_order_113 : decode b_M_order 113 = .ok (.getfield 19, 3) := by decide +kernel
theorem d_M_order_116 : decode b_M_order 116 = .ok (.iload 6, 2) := by decide +kernel
theorem d_M_order_118 : decode b_M_order 118 = .ok (.iaload, 1) := by decide +kernel
theorem d_M_order_119 : decode b_M_order 119 = .ok (.aload_n 0, 1) := by decide +kernel
theorem d_M_order_120 : decode b_M_order 120 = .ok (.getfield 19, 3) := by decide +kernel
theorem d_M_order_123 : decode b_M_order 123 = .ok (.iload_n 3, 1) := by decide +kernel
theorem d_M_order_124 : decode b_M_order 124 = .ok (.iaload, 1) := by decide +kernel
theorem d_M_order_125 : decode b_M_order 125 = .ok (.if_icmp .ge 7, 3) := by decide +kernel
theorem d_M_order_128 : decode b_M_order 128 = .ok (.iconst 1, 1) := by decide +kernel
theorem d_M_order_129 : decode b_M_order 129 = .ok (.goto 4, 3) := by decide +kernel
theorem d_M_order_132 : decode b_M_order 132 = .ok (.iconst 0, 1) := by decide +kernel
theorem d_M_order_133 : decode b_M_order 133 = .ok (.iadd, 1) := by decide +kernel
theorem d_M_order_134 : decode b_M_order 134 = .ok (.istore 4, 2) := by decide +kernel
theorem d_M_order_136 : decode b_M_order 136 = .ok (.iload 5, 2) := by decide +kernel
theorem d_M_order_138 : decode b_M_order 138 = .ok (.iload 6, 2) := by decide +kernel
theorem d_M_order_140 : decode b_M_order 140 = .ok (.iload_n 3, 1) := by decide +kernel
theorem d_M_order_141 : decode b_M_order 141 = .ok (.isub, 1) := by decide +kernel
theorem d_M_order_142 : decode b_M_order 142 = .ok (.imul, 1) := by decide +kernel
theorem d_M_order_143 : decode b_M_order 143 = .ok (.istore 5, 2) := by decide +kernel
theorem d_M_order_145 : decode b_M_order 145 = .ok (.iinc 6 1, 3) := by decide +kernel
theorem d_M_order_148 : decode b_M_order 148 = .ok (.goto (-44), 3) := by decide +kernel
theorem d_M_order_151 : decode b_M_order 151 = .ok (.iload_n 2, 1) := by decide +kernel
theorem d_M_order_152 : decode b_M_order 152 = .ok (.iload 4, 2) := by decide +kernel
theorem d_M_order_154 : decode b_M_order 154 = .ok (.iload 5, 2) := by decide +kernel
theorem d_M_order_156 : decode b_M_order 156 = .ok (.imul, 1) := by decide +kernel
theorem d_M_order_157 : decode b_M_order 157 = .ok (.iadd, 1) := by decide +kernel
theorem d_M_order_158 : decode b_M_order 158 = .ok (.istore_n 2, 1) := by decide +kernel
theorem d_M_order_159 : decode b_M_order 159 = .ok (.iinc 3 1, 3) := by decide +kernel
theorem d_M_order_162 : decode b_M_order 162 = .ok (.goto (-74), 3) := by decide +kernel
theorem d_M_order_165 : decode b_M_order 165 = .ok (.iload_n 2, 1) := by decide +kernel
theorem d_M_order_166 : decode b_M_order 166 = .ok (.ireturn, 1) := by decide +kernel
theorem d_M_choice_0 : decode b_M_choice 0 = .ok (.iconst 0, 1) := by decide +kernel
theorem d_M_choice_1 : decode b_M_choice 1 = .ok (.istore_n 3, 1) := by decide +kernel
theorem d_M_choice_2 : decode b_M_choice 2 = .ok (.iconst 0, 1) := by decide +kernel
theorem d_M_choice_3 : decode b_M_choice 3 = .ok (.istore 4, 2) := by decide +kernel
theorem d_M_choice_5 : decode b_M_choice 5 = .ok (.iconst 0, 1) := by decide +kernel
theorem d_M_choice_6 : decode b_M_choice 6 = .ok (.istore 5, 2) := by decide +kernel
theorem d_M_choice_8 : decode b_M_choice 8 = .ok (.iload 5, 2) := by decide +kernel
theorem d_M_choice_10 : decode b_M_choice 10 = .ok (.iload_n 1, 1) := by decide +kernel
theorem d_M_choice_11 : decode b_M_choice 11 = .ok (.if_icmp .ge 43, 3) := by decide +kernel
theorem d_M_choice_14 : decode b_M_choice 14 = .ok (.aload_n 0, 1) := by decide +kernel
theorem d_M_choice_15 : decode b_M_choice 15 = .ok (.getfield 36, 3) := by decide +kernel
theorem d_M_choice_18 : decode b_M_choice 18 = .ok (.ifCond .ne 36, 3) := by decide +kernel
theorem d_M_choice_21 : decode b_M_choice 21 = .ok (.aload_n 0, 1) := by decide +kernel
theorem d_M_choice_22 : decode b_M_choice 22 = .ok (.iload_n 2, 1) := by decide +kernel
theorem d_M_choice_23 : decode b_M_choice 23 = .ok (.iload_n 3, 1) := by decide +kernel
theorem d_M_choice_24 : decode b_M_choice 24 = .ok (.isub, 1) := by decide +kernel
theorem d_M_choice_25 : decode b_M_choice 25 = .ok (.iload_n 1, 1) := by decide +kernel
theorem d_M_choice_26 : decode b_M_choice 26 = .ok (.iload 5, 2) := by decide +kernel
theorem d_M_choice_28 : decode b_M_choice 28 = .ok (.isub, 1) := by decide +kernel
theorem d_M_choice_29 : decode b_M_choice 29 = .ok (.invokevirtual 47, 3) := by decide +kernel
theorem d_M_choice_32 : decode b_M_choice 32 = .ok (.iconst 1, 1) := by decide +kernel
theorem d_M_choice_33 : decode b_M_choice 33 = .ok (.if_icmp .ne 15, 3) := by decide +kernel
theorem d_M_choice_36 : decode b_M_choice 36 = .ok (.iinc 3 1, 3) := by decide +kernel
theorem d_M_choice_39 : decode b_M_choice 39 = .ok (.iload 4, 2) := by decide +kernel
theorem d_M_choice_41 : decode b_M_choice 41 = .ok (.iconst 1, 1) := by decide +kernel
theorem d_M_choice_42 : decode b_M_choice 42 = .ok (.iload 5, 2) := by decide +kernel
theorem d_M_choice_44 : decode b_M_choice 44 = .ok (.ishl, 1) := by decide +kernel
theorem d_M_choice_45 : decode b_M_choice 45 = .ok (.iadd, 1) := by decide +kernel
theorem d_M_choice_46 : decode b_M_choice 46 = .ok (.istore 4, 2) := by decide +kernel
theorem d_M_choice_48 : decode b_M_choice 48 = .ok (.iinc 5 1, 3) := by decide +kernel
theorem d_M_choice_51 : decode b_M_choice 51 = .ok (.goto (-43), 3) := by decide +kernel
theorem d_M_choice_54 : decode b_M_choice 54 = .ok (.iload 4, 2) := by decide +kernel
theorem d_M_choice_56 : decode b_M_choice 56 = .ok (.ireturn, 1) := by decide +kernel
theorem d_M_share_0 : decode b_M_share 0 = .ok (.aload_n 0, 1) := by decide +kernel
theorem d_M_share_1 : decode b_M_share 1 = .ok (.aload_n 0, 1) := by decide +kernel
theorem d_M_share_2 : decode b_M_share 2 = .ok (.invokevirtual 26, 3) := by decide +kernel
theorem d_M_share_5 : decode b_M_share 5 = .ok (.invokevirtual 43, 3) := by decide +kernel
theorem d_M_share_8 : decode b_M_share 8 = .ok (.istore_n 1, 1) := by decide +kernel
theorem d_M_share_9 : decode b_M_share 9 = .ok (.iconst 0, 1) := by decide +kernel
theorem d_M_share_10 : decode b_M_share 10 = .ok (.istore_n 2, 1) := by decide +kernel
theorem d_M_share_11 : decode b_M_share 11 = .ok (.aload_n 0, 1) := by decide +kernel
theorem d_M_share_12 : decode b_M_share 12 = .ok (.getfield 7, 3) := by decide +kernel
theorem d_M_share_15 : decode b_M_share 15 = .ok (.iconst 0, 1) := by decide +kernel
theorem d_M_share_16 : decode b_M_share 16 = .ok (.iaload, 1) := by decide +kernel
theorem d_M_share_17 : decode b_M_share 17 = .ok (.istore_n 3, 1) := by decide +kernel
theorem d_M_share_18 : decode b_M_share 18 = .ok (.iload_n 2, 1) := by decide +kernel
theorem d_M_share_19 : decode b_M_share 19 = .ok (.bipush 7, 2) := by decide +kernel
theorem d_M_share_21 : decode b_M_share 21 = .ok (.if_icmp .ge 23, 3) := by decide +kernel
theorem d_M_share_24 : decode b_M_share 24 = .ok (.iload_n 3, 1) := by decide +kernel
theorem d_M_share_25 : decode b_M_share 25 = .ok (.iload_n 1, 1) := by decide +kernel
theorem d_M_share_26 : decode b_M_share 26 = .ok (.if_icmp .gt 18, 3) := by decide +kernel
theorem d_M_share_29 : decode b_M_share 29 = .ok (.iinc 2 1, 3) := by decide +kernel
theorem d_M_share_32 : decode b_M_share 32 = .ok (.iload_n 3, 1) := by decide +kernel
theorem d_M_share_33 : decode b_M_share 33 = .ok (.aload_n 0, 1) := by decide +kernel
theorem d_M_share_34 : decode b_M_share 34 = .ok (.getfield 7, 3) := by decide +kernel
theorem d_M_share_37 : decode b_M_share 37 = .ok (.iload_n 2, 1) := by decide +kernel
theorem d_M_share_38 : decode b_M_share 38 = .ok (.iaload, 1) := by decide +kernel
theorem d_M_share_39 : decode b_M_share 39 = .ok (.iadd, 1) := by decide +kernel
theorem d_M_share_40 : decode b_M_share 40 = .ok (.istore_n 3, 1) := by decide +kernel
theorem d_M_share_41 : decode b_M_share 41 = .ok (.goto (-23), 3) := by decide +kernel
theorem d_M_share_44 : decode b_M_share 44 = .ok (.iload_n 2, 1) := by decide +kernel
theorem d_M_share_45 : decode b_M_share 45 = .ok (.ireturn, 1) := by decide +kernel
theorem d_M_run_0 : decode b_M_run 0 = .ok (.aload_n 0, 1) := by decide +kernel
theorem d_M_run_1 : decode b_M_run 1 = .ok (.iconst 0, 1) := by decide +kernel
theorem d_M_run_2 : decode b_M_run 2 = .ok (.putfield 30, 3) := by decide +kernel
theorem d_M_run_5 : decode b_M_run 5 = .ok (.aload_n 0, 1) := by decide +kernel
theorem d_M_run_6 : decode b_M_run 6 = .ok (.iconst 0, 1) := by decide +kernel
theorem d_M_run_7 : decode b_M_run 7 = .ok (.putfield 36, 3) := by decide +kernel
theorem d_M_run_10 : decode b_M_run 10 = .ok (.iload_n 1, 1) := by decide +kernel
theorem d_M_run_11 : decode b_M_run 11 = .ok (.tableswitch 135 0 6 #[41, 47, 53, 60, 90, 122, 128], 41) := by decide +kernel
theorem d_M_run_52 : decode b_M_run 52 = .ok (.aload_n 0, 1) := by decide +kernel
theorem d_M_run_53 : decode b_M_run 53 = .ok (.iload_n 2, 1) := by decide +kernel
theorem d_M_run_54 : decode b_M_run 54 = .ok (.invokevirtual 43, 3) := by decide +kernel
theorem d_M_run_57 : decode b_M_run 57 = .ok (.ireturn, 1) := by decide +kernel
theorem d_M_run_58 : decode b_M_run 58 = .ok (.aload_n 0, 1) := by decide +kernel
theorem d_M_run_59 : decode b_M_run 59 = .ok (.iload_n 2, 1) := by decide +kernel
theorem d_M_run_60 : decode b_M_run 60 = .ok (.invokevirtual 51, 3) := by decide +kernel
theorem d_M_run_63 : decode b_M_run 63 = .ok (.ireturn, 1) := by decide +kernel
theorem d_M_run_64 : decode b_M_run 64 = .ok (.aload_n 0, 1) := by decide +kernel
theorem d_M_run_65 : decode b_M_run 65 = .ok (.iload_n 2, 1) := by decide +kernel
theorem d_M_run_66 : decode b_M_run 66 = .ok (.iload_n 3, 1) := by decide +kernel
theorem d_M_run_67 : decode b_M_run 67 = .ok (.invokevirtual 47, 3) := by decide +kernel
theorem d_M_run_70 : decode b_M_run 70 = .ok (.ireturn, 1) := by decide +kernel
theorem d_M_run_71 : decode b_M_run 71 = .ok (.iconst 0, 1) := by decide +kernel
theorem d_M_run_72 : decode b_M_run 72 = .ok (.istore 4, 2) := by decide +kernel
theorem d_M_run_74 : decode b_M_run 74 = .ok (.iconst 0, 1) := by decide +kernel
theorem d_M_run_75 : decode b_M_run 75 = .ok (.istore 5, 2) := by decide +kernel
theorem d_M_run_77 : decode b_M_run 77 = .ok (.iload 5, 2) := by decide +kernel
theorem d_M_run_79 : decode b_M_run 79 = .ok (.iload_n 2, 1) := by decide +kernel
theorem d_M_run_80 : decode b_M_run 80 = .ok (.if_icmp .ge 18, 3) := by decide +kernel
theorem d_M_run_83 : decode b_M_run 83 = .ok (.iload 4, 2) := by decide +kernel
theorem d_M_run_85 : decode b_M_run 85 = .ok (.aload_n 0, 1) := by decide +kernel
theorem d_M_run_86 : decode b_M_run 86 = .ok (.invokevirtual 40, 3) := by decide +kernel
theorem d_M_run_89 : decode b_M_run 89 = .ok (.iadd, 1) := by decide +kernel
theorem d_M_run_90 : decode b_M_run 90 = .ok (.istore 4, 2) := by decide +kernel
theorem d_M_run_92 : decode b_M_run 92 = .ok (.iinc 5 1, 3) := by decide +kernel
theorem d_M_run_95 : decode b_M_run 95 = .ok (.goto (-18), 3) := by decide +kernel
theorem d_M_run_98 : decode b_M_run 98 = .ok (.iload 4, 2) := by decide +kernel
theorem d_M_run_100 : decode b_M_run 100 = .ok (.ireturn, 1) := by decide +kernel
theorem d_M_run_101 : decode b_M_run 101 = .ok (.iconst 0, 1) := by decide +kernel
theorem d_M_run_102 : decode b_M_run 102 = .ok (.istore 5, 2) := by decide +kernel
theorem d_M_run_104 : decode b_M_run 104 = .ok (.iload 5, 2) := by decide +kernel
theorem d_M_run_106 : decode b_M_run 106 = .ok (.iload_n 2, 1) := by decide +kernel
theorem d_M_run_107 : decode b_M_run 107 = .ok (.if_icmp .ge 23, 3) := by decide +kernel
theorem d_M_run_110 : decode b_M_run 110 = .ok (.aload_n 0, 1) := by decide +kernel
theorem d_M_run_111 : decode b_M_run 111 = .ok (.getfield 36, 3) := by decide +kernel
theorem d_M_run_114 : decode b_M_run 114 = .ok (.ifCond .ne 16, 3) := by decide +kernel
theorem d_M_run_117 : decode b_M_run 117 = .ok (.aload_n 0, 1) := by decide +kernel
theorem d_M_run_118 : decode b_M_run 118 = .ok (.invokevirtual 40, 3) := by decide +kernel
theorem d_M_run_121 : decode b_M_run 121 = .ok (.ifCond .ne 9, 3) := by decide +kernel
theorem d_M_run_124 : decode b_M_run 124 = .ok (.iinc 5 1, 3) := by decide +kernel
theorem d_M_run_127 : decode b_M_run 127 = .ok (.goto (-23), 3) := by decide +kernel
theorem d_M_run_130 : decode b_M_run 130 = .ok (.iload 5, 2) := by decide +kernel
theorem d_M_run_132 : decode b_M_run 132 = .ok (.ireturn, 1) := by decide +kernel
theorem d_M_run_133 : decode b_M_run 133 = .ok (.aload_n 0, 1) := by decide +kernel
theorem d_M_run_134 : decode b_M_run 134 = .ok (.iload_n 2, 1) := by decide +kernel
theorem d_M_run_135 : decode b_M_run 135 = .ok (.invokevirtual 54, 3) := by decide +kernel
theorem d_M_run_138 : decode b_M_run 138 = .ok (.ireturn, 1) := by decide +kernel
theorem d_M_run_139 : decode b_M_run 139 = .ok (.aload_n 0, 1) := by decide +kernel
theorem d_M_run_140 : decode b_M_run 140 = .ok (.iload_n 2, 1) := by decide +kernel
theorem d_M_run_141 : decode b_M_run 141 = .ok (.iload_n 3, 1) := by decide +kernel
theorem d_M_run_142 : decode b_M_run 142 = .ok (.invokevirtual 57, 3) := by decide +kernel
theorem d_M_run_145 : decode b_M_run 145 = .ok (.ireturn, 1) := by decide +kernel
theorem d_M_run_146 : decode b_M_run 146 = .ok (.aload_n 0, 1) := by decide +kernel
theorem d_M_run_147 : decode b_M_run 147 = .ok (.invokevirtual 60, 3) := by decide +kernel
theorem d_M_run_150 : decode b_M_run 150 = .ok (.ireturn, 1) := by decide +kernel
theorem d_M_draw_0 : decode b_M_draw 0 = .ok (.aload_n 0, 1) := by decide +kernel
theorem d_M_draw_1 : decode b_M_draw 1 = .ok (.iload_n 1, 1) := by decide +kernel
theorem d_M_draw_2 : decode b_M_draw 2 = .ok (.iload_n 2, 1) := by decide +kernel
theorem d_M_draw_3 : decode b_M_draw 3 = .ok (.iload_n 3, 1) := by decide +kernel
theorem d_M_draw_4 : decode b_M_draw 4 = .ok (.invokevirtual 63, 3) := by decide +kernel
theorem d_M_draw_7 : decode b_M_draw 7 = .ok (.ifCond .ne 5, 3) := by decide +kernel
theorem d_M_draw_10 : decode b_M_draw 10 = .ok (.iconst (-1), 1) := by decide +kernel
theorem d_M_draw_11 : decode b_M_draw 11 = .ok (.ireturn, 1) := by decide +kernel
theorem d_M_draw_12 : decode b_M_draw 12 = .ok (.iconst 0, 1) := by decide +kernel
theorem d_M_draw_13 : decode b_M_draw 13 = .ok (.istore 4, 2) := by decide +kernel
theorem d_M_draw_15 : decode b_M_draw 15 = .ok (.iload 4, 2) := by decide +kernel
theorem d_M_draw_17 : decode b_M_draw 17 = .ok (.aload_n 0, 1) := by decide +kernel
theorem d_M_draw_18 : decode b_M_draw 18 = .ok (.getfield 22, 3) := by decide +kernel
theorem d_M_draw_21 : decode b_M_draw 21 = .ok (.if_icmp .ge 23, 3) := by decide +kernel
theorem d_M_draw_24 : decode b_M_draw 24 = .ok (.aload_n 0, 1) := by decide +kernel
theorem d_M_draw_25 : decode b_M_draw 25 = .ok (.getfield 16, 3) := by decide +kernel
theorem d_M_draw_28 : decode b_M_draw 28 = .ok (.iload 4, 2) := by decide +kernel
theorem d_M_draw_30 : decode b_M_draw 30 = .ok (.aload_n 0, 1) := by decide +kernel
theorem d_M_draw_31 : decode b_M_draw 31 = .ok (.getfield 13, 3) := by decide +kernel
theorem d_M_draw_34 : decode b_M_draw 34 = .ok (.iload 4, 2) := by decide +kernel
theorem d_M_draw_36 : decode b_M_draw 36 = .ok (.iaload, 1) := by decide +kernel
theorem d_M_draw_37 : decode b_M_draw 37 = .ok (.iastore, 1) := by decide +kernel
theorem d_M_draw_38 : decode b_M_draw 38 = .ok (.iinc 4 1, 3) := by decide +kernel
theorem d_M_draw_41 : decode b_M_draw 41 = .ok (.goto (-26), 3) := by decide +kernel
theorem d_M_draw_44 : decode b_M_draw 44 = .ok (.aload_n 0, 1) := by decide +kernel
theorem d_M_draw_45 : decode b_M_draw 45 = .ok (.aload_n 0, 1) := by decide +kernel
theorem d_M_draw_46 : decode b_M_draw 46 = .ok (.getfield 22, 3) := by decide +kernel
theorem d_M_draw_49 : decode b_M_draw 49 = .ok (.putfield 33, 3) := by decide +kernel
theorem d_M_draw_52 : decode b_M_draw 52 = .ok (.aload_n 0, 1) := by decide +kernel
theorem d_M_draw_53 : decode b_M_draw 53 = .ok (.iload_n 1, 1) := by decide +kernel
theorem d_M_draw_54 : decode b_M_draw 54 = .ok (.iload_n 2, 1) := by decide +kernel
theorem d_M_draw_55 : decode b_M_draw 55 = .ok (.iload_n 3, 1) := by decide +kernel
theorem d_M_draw_56 : decode b_M_draw 56 = .ok (.invokevirtual 67, 3) := by decide +kernel
theorem d_M_draw_59 : decode b_M_draw 59 = .ok (.istore 4, 2) := by decide +kernel
theorem d_M_draw_61 : decode b_M_draw 61 = .ok (.aload_n 0, 1) := by decide +kernel
theorem d_M_draw_62 : decode b_M_draw 62 = .ok (.getfield 36, 3) := by decide +kernel
theorem d_M_draw_65 : decode b_M_draw 65 = .ok (.ifCond .eq 5, 3) := by decide +kernel
theorem d_M_draw_68 : decode b_M_draw 68 = .ok (.iconst (-1), 1) := by decide +kernel
theorem d_M_draw_69 : decode b_M_draw 69 = .ok (.ireturn, 1) := by decide +kernel
theorem d_M_draw_70 : decode b_M_draw 70 = .ok (.aload_n 0, 1) := by decide +kernel
theorem d_M_draw_71 : decode b_M_draw 71 = .ok (.getfield 30, 3) := by decide +kernel
theorem d_M_draw_74 : decode b_M_draw 74 = .ok (.istore 5, 2) := by decide +kernel
theorem d_M_draw_76 : decode b_M_draw 76 = .ok (.iload 5, 2) := by decide +kernel
theorem d_M_draw_78 : decode b_M_draw 78 = .ok (.aload_n 0, 1) := by decide +kernel
theorem d_M_draw_79 : decode b_M_draw 79 = .ok (.getfield 22, 3) := by decide +kernel
theorem d_M_draw_82 : decode b_M_draw 82 = .ok (.if_icmp .ge 28, 3) := by decide +kernel
theorem d_M_draw_85 : decode b_M_draw 85 = .ok (.aload_n 0, 1) := by decide +kernel
theorem d_M_draw_86 : decode b_M_draw 86 = .ok (.getfield 13, 3) := by decide +kernel
theorem d_M_draw_89 : decode b_M_draw 89 = .ok (.iload 5, 2) := by decide +kernel
theorem d_M_draw_91 : decode b_M_draw 91 = .ok (.aload_n 0, 1) := by decide +kernel
theorem d_M_draw_92 : decode b_M_draw 92 = .ok (.getfield 30, 3) := by decide +kernel
theorem d_M_draw_95 : decode b_M_draw 95 = .ok (.isub, 1) := by decide +kernel
theorem d_M_draw_96 : decode b_M_draw 96 = .ok (.aload_n 0, 1) := by decide +kernel
theorem d_M_draw_97 : decode b_M_draw 97 = .ok (.getfield 13, 3) := by decide +kernel
theorem d_M_draw_100 : decode b_M_draw 100 = .ok (.iload 5, 2) := by decide +kernel
theorem d_M_draw_102 : decode b_M_draw 102 = .ok (.iaload, 1) := by decide +kernel
theorem d_M_draw_103 : decode b_M_draw 103 = .ok (.iastore, 1) := by decide +kernel
theorem d_M_draw_104 : decode b_M_draw 104 = .ok (.iinc 5 1, 3) := by decide +kernel
theorem d_M_draw_107 : decode b_M_draw 107 = .ok (.goto (-31), 3) := by decide +kernel
theorem d_M_draw_110 : decode b_M_draw 110 = .ok (.aload_n 0, 1) := by decide +kernel
theorem d_M_draw_111 : decode b_M_draw 111 = .ok (.dup, 1) := by decide +kernel
theorem d_M_draw_112 : decode b_M_draw 112 = .ok (.getfield 22, 3) := by decide +kernel
theorem d_M_draw_115 : decode b_M_draw 115 = .ok (.aload_n 0, 1) := by decide +kernel
theorem d_M_draw_116 : decode b_M_draw 116 = .ok (.getfield 30, 3) := by decide +kernel
theorem d_M_draw_119 : decode b_M_draw 119 = .ok (.isub, 1) := by decide +kernel
theorem d_M_draw_120 : decode b_M_draw 120 = .ok (.putfield 22, 3) := by decide +kernel
theorem d_M_draw_123 : decode b_M_draw 123 = .ok (.aload_n 0, 1) := by decide +kernel
theorem d_M_draw_124 : decode b_M_draw 124 = .ok (.aload_n 0, 1) := by decide +kernel
theorem d_M_draw_125 : decode b_M_draw 125 = .ok (.getfield 30, 3) := by decide +kernel
theorem d_M_draw_128 : decode b_M_draw 128 = .ok (.putfield 71, 3) := by decide +kernel
theorem d_M_draw_131 : decode b_M_draw 131 = .ok (.iload 4, 2) := by decide +kernel
theorem d_M_draw_133 : decode b_M_draw 133 = .ok (.ireturn, 1) := by decide +kernel
theorem d_M_spent_0 : decode b_M_spent 0 = .ok (.aload_n 0, 1) := by decide +kernel
theorem d_M_spent_1 : decode b_M_spent 1 = .ok (.getfield 71, 3) := by decide +kernel
theorem d_M_spent_4 : decode b_M_spent 4 = .ok (.ireturn, 1) := by decide +kernel
theorem d_M_tryAll_0 : decode b_M_tryAll 0 = .ok (.aload_n 0, 1) := by decide +kernel
theorem d_M_tryAll_1 : decode b_M_tryAll 1 = .ok (.iconst 0, 1) := by decide +kernel
theorem d_M_tryAll_2 : decode b_M_tryAll 2 = .ok (.putfield 74, 3) := by decide +kernel
theorem d_M_tryAll_5 : decode b_M_tryAll 5 = .ok (.aload_n 0, 1) := by decide +kernel
theorem d_M_tryAll_6 : decode b_M_tryAll 6 = .ok (.iconst 0, 1) := by decide +kernel
theorem d_M_tryAll_7 : decode b_M_tryAll 7 = .ok (.putfield 77, 3) := by decide +kernel
theorem d_M_tryAll_10 : decode b_M_tryAll 10 = .ok (.aload_n 0, 1) := by decide +kernel
theorem d_M_tryAll_11 : decode b_M_tryAll 11 = .ok (.iconst 0, 1) := by decide +kernel
theorem d_M_tryAll_12 : decode b_M_tryAll 12 = .ok (.putfield 80, 3) := by decide +kernel
theorem d_M_tryAll_15 : decode b_M_tryAll 15 = .ok (.aload_n 0, 1) := by decide +kernel
theorem d_M_tryAll_16 : decode b_M_tryAll 16 = .ok (.iload 4, 2) := by decide +kernel
theorem d_M_tryAll_18 : decode b_M_tryAll 18 = .ok (.putfield 33, 3) := by decide +kernel
theorem d_M_tryAll_21 : decode b_M_tryAll 21 = .ok (.iconst 0, 1) := by decide +kernel
theorem d_M_tryAll_22 : decode b_M_tryAll 22 = .ok (.istore 6, 2) := by decide +kernel
theorem d_M_tryAll_24 : decode b_M_tryAll 24 = .ok (.iload 6, 2) := by decide +kernel
theorem d_M_tryAll_26 : decode b_M_tryAll 26 = .ok (.iconst 1, 1) := by decide +kernel
theorem d_M_tryAll_27 : decode b_M_tryAll 27 = .ok (.iload 4, 2) := by decide +kernel
theorem d_M_tryAll_29 : decode b_M_tryAll 29 = .ok (.ishl, 1) := by decide +kernel
theorem d_M_tryAll_30 : decode b_M_tryAll 30 = .ok (.if_icmp .ge 116, 3) := by decide +kernel
theorem d_M_tryAll_33 : decode b_M_tryAll 33 = .ok (.iconst 0, 1) := by decide +kernel
theorem d_M_tryAll_34 : decode b_M_tryAll 34 = .ok (.istore 7, 2) := by decide +kernel
theorem d_M_tryAll_36 : decode b_M_tryAll 36 = .ok (.iload 7, 2) := by decide +kernel
theorem d_M_tryAll_38 : decode b_M_tryAll 38 = .ok (.iload 4, 2) := by decide +kernel
theorem d_M_tryAll_40 : decode b_M_tryAll 40 = .ok (.if_icmp .ge 23, 3) := by decide +kernel
theorem d_M_tryAll_43 : decode b_M_tryAll 43 = .ok (.aload_n 0, 1) := by decide +kernel
theorem d_M_tryAll_44 : decode b_M_tryAll 44 = .ok (.getfield 16, 3) := by decide +kernel
theorem d_M_tryAll_47 : decode b_M_tryAll 47 = .ok (.iload 7, 2) := by decide +kernel
theorem d_M_tryAll_49 : decode b_M_tryAll 49 = .ok (.iload 6, 2) := by decide +kernel
theorem d_M_tryAll_51 : decode b_M_tryAll 51 = .ok (.iload 7, 2) := by decide +kernel
theorem d_M_tryAll_53 : decode b_M_tryAll 53 = .ok (.ishr, 1) := by decide +kernel
theorem d_M_tryAll_54 : decode b_M_tryAll 54 = .ok (.iconst 1, 1) := by decide +kernel
theorem d_M_tryAll_55 : decode b_M_tryAll 55 = .ok (.iand, 1) := by decide +kernel
theorem d_M_tryAll_56 : decode b_M_tryAll 56 = .ok (.iastore, 1) := by decide +kernel
theorem d_M_tryAll_57 : decode b_M_tryAll 57 = .ok (.iinc 7 1, 3) := by decide +kernel
theorem d_M_tryAll_60 : decode b_M_tryAll 60 = .ok (.goto (-24), 3) := by decide +kernel
theorem d_M_tryAll_63 : decode b_M_tryAll 63 = .ok (.aload_n 0, 1) := by decide +kernel
theorem d_M_tryAll_64 : decode b_M_tryAll 64 = .ok (.iload_n 1, 1) := by decide +kernel
theorem d_M_tryAll_65 : decode b_M_tryAll 65 = .ok (.iload_n 2, 1) := by decide +kernel
theorem d_M_tryAll_66 : decode b_M_tryAll 66 = .ok (.iload_n 3, 1) := by decide +kernel
theorem d_M_tryAll_67 : decode b_M_tryAll 67 = .ok (.invokevirtual 67, 3) := by decide +kernel
theorem d_M_tryAll_70 : decode b_M_tryAll 70 = .ok (.istore 7, 2) := by decide +kernel
theorem d_M_tryAll_72 : decode b_M_tryAll 72 = .ok (.aload_n 0, 1) := by decide +kernel
theorem d_M_tryAll_73 : decode b_M_tryAll 73 = .ok (.dup, 1) := by decide +kernel
theorem d_M_tryAll_74 : decode b_M_tryAll 74 = .ok (.getfield 80, 3) := by decide +kernel
theorem d_M_tryAll_77 : decode b_M_tryAll 77 = .ok (.aload_n 0, 1) := by decide +kernel
theorem d_M_tryAll_78 : decode b_M_tryAll 78 = .ok (.getfield 30, 3) := by decide +kernel
theorem d_M_tryAll_81 : decode b_M_tryAll 81 = .ok (.iadd, 1) := by decide +kernel
theorem d_M_tryAll_82 : decode b_M_tryAll 82 = .ok (.putfield 80, 3) := by decide +kernel
theorem d_M_tryAll_85 : decode b_M_tryAll 85 = .ok (.aload_n 0, 1) := by decide +kernel
theorem d_M_tryAll_86 : decode b_M_tryAll 86 = .ok (.aload_n 0, 1) := by decide +kernel
theorem d_M_tryAll_87 : decode b_M_tryAll 87 = .ok (.getfield 36, 3) := by decide +kernel
theorem d_M_tryAll_90 : decode b_M_tryAll 90 = .ok (.ifCond .eq 12, 3) := by decide +kernel
theorem d_M_tryAll_93 : decode b_M_tryAll 93 = .ok (.aload_n 0, 1) := by decide +kernel
theorem d_M_tryAll_94 : decode b_M_tryAll 94 = .ok (.getfield 77, 3) := by decide +kernel
theorem d_M_tryAll_97 : decode b_M_tryAll 97 = .ok (.iconst 1, 1) := by decide +kernel
theorem d_M_tryAll_98 : decode b_M_tryAll 98 = .ok (.iadd, 1) := by decide +kernel
theorem d_M_tryAll_99 : decode b_M_tryAll 99 = .ok (.goto 7, 3) := by decide +kernel
theorem d_M_tryAll_102 : decode b_M_tryAll 102 = .ok (.aload_n 0, 1) := by decide +kernel
theorem d_M_tryAll_103 : decode b_M_tryAll 103 = .ok (.getfield 77, 3) := by decide +kernel
theorem d_M_tryAll_106 : decode b_M_tryAll 106 = .ok (.putfield 77, 3) := by decide +kernel
theorem d_M_tryAll_109 : decode b_M_tryAll 109 = .ok (.aload_n 0, 1) := by decide +kernel
theorem d_M_tryAll_110 : decode b_M_tryAll 110 = .ok (.aload_n 0, 1) := by decide +kernel
theorem d_M_tryAll_111 : decode b_M_tryAll 111 = .ok (.getfield 36, 3) := by decide +kernel
theorem d_M_tryAll_114 : decode b_M_tryAll 114 = .ok (.ifCond .ne 19, 3) := by decide +kernel
theorem d_M_tryAll_117 : decode b_M_tryAll 117 = .ok (.iload 7, 2) := by decide +kernel
theorem d_M_tryAll_119 : decode b_M_tryAll 119 = .ok (.iload 5, 2) := by decide +kernel
theorem d_M_tryAll_121 : decode b_M_tryAll 121 = .ok (.if_icmp .ne 12, 3) := by decide +kernel
theorem d_M_tryAll_124 : decode b_M_tryAll 124 = .ok (.aload_n 0, 1) := by decide +kernel
theorem d_M_tryAll_125 : decode b_M_tryAll 125 = .ok (.getfield 74, 3) := by decide +kernel
theorem d_M_tryAll_128 : decode b_M_tryAll 128 = .ok (.iconst 1, 1) := by decide +kernel
theorem d_M_tryAll_129 : decode b_M_tryAll 129 = .ok (.iadd, 1) := by decide +kernel
theorem d_M_tryAll_130 : decode b_M_tryAll 130 = .ok (.goto 7, 3) := by decide +kernel
theorem d_M_tryAll_133 : decode b_M_tryAll 133 = .ok (.aload_n 0, 1) := by decide +kernel
theorem d_M_tryAll_134 : decode b_M_tryAll 134 = .ok (.getfield 74, 3) := by decide +kernel
theorem d_M_tryAll_137 : decode b_M_tryAll 137 = .ok (.putfield 74, 3) := by decide +kernel
theorem d_M_tryAll_140 : decode b_M_tryAll 140 = .ok (.iinc 6 1, 3) := by decide +kernel
theorem d_M_tryAll_143 : decode b_M_tryAll 143 = .ok (.goto (-119), 3) := by decide +kernel
theorem d_M_tryAll_146 : decode b_M_tryAll 146 = .ok (.return_, 1) := by decide +kernel
theorem d_M_isAll_0 : decode b_M_isAll 0 = .ok (.aload_n 0, 1) := by decide +kernel
theorem d_M_isAll_1 : decode b_M_isAll 1 = .ok (.iload_n 1, 1) := by decide +kernel
theorem d_M_isAll_2 : decode b_M_isAll 2 = .ok (.iload_n 2, 1) := by decide +kernel
theorem d_M_isAll_3 : decode b_M_isAll 3 = .ok (.iload_n 3, 1) := by decide +kernel
theorem d_M_isAll_4 : decode b_M_isAll 4 = .ok (.invokevirtual 63, 3) := by decide +kernel
theorem d_M_isAll_7 : decode b_M_isAll 7 = .ok (.ifCond .eq 19, 3) := by decide +kernel
theorem d_M_isAll_10 : decode b_M_isAll 10 = .ok (.iload 4, 2) := by decide +kernel
theorem d_M_isAll_12 : decode b_M_isAll 12 = .ok (.ifCond .lt 14, 3) := by decide +kernel
theorem d_M_isAll_15 : decode b_M_isAll 15 = .ok (.iload 4, 2) := by decide +kernel
theorem d_M_isAll_17 : decode b_M_isAll 17 = .ok (.bipush 12, 2) := by decide +kernel
theorem d_M_isAll_19 : decode b_M_isAll 19 = .ok (.if_icmp .gt 7, 3) := by decide +kernel
theorem d_M_isAll_22 : decode b_M_isAll 22 = .ok (.iconst 1, 1) := by decide +kernel
theorem d_M_isAll_23 : decode b_M_isAll 23 = .ok (.goto 4, 3) := by decide +kernel
theorem d_M_isAll_26 : decode b_M_isAll 26 = .ok (.iconst 0, 1) := by decide +kernel
theorem d_M_isAll_27 : decode b_M_isAll 27 = .ok (.ireturn, 1) := by decide +kernel
theorem d_M_count_0 : decode b_M_count 0 = .ok (.aload_n 0, 1) := by decide +kernel
theorem d_M_count_1 : decode b_M_count 1 = .ok (.iload_n 1, 1) := by decide +kernel
theorem d_M_count_2 : decode b_M_count 2 = .ok (.iload_n 2, 1) := by decide +kernel
theorem d_M_count_3 : decode b_M_count 3 = .ok (.iload_n 3, 1) := by decide +kernel
theorem d_M_count_4 : decode b_M_count 4 = .ok (.iload 4, 2) := by decide +kernel
theorem d_M_count_6 : decode b_M_count 6 = .ok (.invokevirtual 83, 3) := by decide +kernel
theorem d_M_count_9 : decode b_M_count 9 = .ok (.ifCond .ne 5, 3) := by decide +kernel
theorem d_M_count_12 : decode b_M_count 12 = .ok (.iconst (-1), 1) := by decide +kernel
theorem d_M_count_13 : decode b_M_count 13 = .ok (.ireturn, 1) := by decide +kernel
theorem d_M_count_14 : decode b_M_count 14 = .ok (.aload_n 0, 1) := by decide +kernel
theorem d_M_count_15 : decode b_M_count 15 = .ok (.iload_n 1, 1) := by decide +kernel
theorem d_M_count_16 : decode b_M_count 16 = .ok (.iload_n 2, 1) := by decide +kernel
theorem d_M_count_17 : decode b_M_count 17 = .ok (.iload_n 3, 1) := by decide +kernel
theorem d_M_count_18 : decode b_M_count 18 = .ok (.iload 4, 2) := by decide +kernel
theorem d_M_count_20 : decode b_M_count 20 = .ok (.iload 5, 2) := by decide +kernel
theorem d_M_count_22 : decode b_M_count 22 = .ok (.invokevirtual 87, 3) := by decide +kernel
theorem d_M_count_25 : decode b_M_count 25 = .ok (.aload_n 0, 1) := by decide +kernel
theorem d_M_count_26 : decode b_M_count 26 = .ok (.getfield 74, 3) := by decide +kernel
theorem d_M_count_29 : decode b_M_count 29 = .ok (.ireturn, 1) := by decide +kernel
theorem d_M_fails_0 : decode b_M_fails 0 = .ok (.aload_n 0, 1) := by decide +kernel
theorem d_M_fails_1 : decode b_M_fails 1 = .ok (.iload_n 1, 1) := by decide +kernel
theorem d_M_fails_2 : decode b_M_fails 2 = .ok (.iload_n 2, 1) := by decide +kernel
theorem d_M_fails_3 : decode b_M_fails 3 = .ok (.iload_n 3, 1) := by decide +kernel
theorem d_M_fails_4 : decode b_M_fails 4 = .ok (.iload 4, 2) := by decide +kernel
theorem d_M_fails_6 : decode b_M_fails 6 = .ok (.invokevirtual 83, 3) := by decide +kernel
theorem d_M_fails_9 : decode b_M_fails 9 = .ok (.ifCond .ne 5, 3) := by decide +kernel
theorem d_M_fails_12 : decode b_M_fails 12 = .ok (.iconst (-1), 1) := by decide +kernel
theorem d_M_fails_13 : decode b_M_fails 13 = .ok (.ireturn, 1) := by decide +kernel
theorem d_M_fails_14 : decode b_M_fails 14 = .ok (.aload_n 0, 1) := by decide +kernel
theorem d_M_fails_15 : decode b_M_fails 15 = .ok (.iload_n 1, 1) := by decide +kernel
theorem d_M_fails_16 : decode b_M_fails 16 = .ok (.iload_n 2, 1) := by decide +kernel
theorem d_M_fails_17 : decode b_M_fails 17 = .ok (.iload_n 3, 1) := by decide +kernel
theorem d_M_fails_18 : decode b_M_fails 18 = .ok (.iload 4, 2) := by decide +kernel
theorem d_M_fails_20 : decode b_M_fails 20 = .ok (.iconst 0, 1) := by decide +kernel
theorem d_M_fails_21 : decode b_M_fails 21 = .ok (.invokevirtual 87, 3) := by decide +kernel
theorem d_M_fails_24 : decode b_M_fails 24 = .ok (.aload_n 0, 1) := by decide +kernel
theorem d_M_fails_25 : decode b_M_fails 25 = .ok (.getfield 77, 3) := by decide +kernel
theorem d_M_fails_28 : decode b_M_fails 28 = .ok (.ireturn, 1) := by decide +kernel
theorem d_M_work_0 : decode b_M_work 0 = .ok (.aload_n 0, 1) := by decide +kernel
theorem d_M_work_1 : decode b_M_work 1 = .ok (.iload_n 1, 1) := by decide +kernel
theorem d_M_work_2 : decode b_M_work 2 = .ok (.iload_n 2, 1) := by decide +kernel
theorem d_M_work_3 : decode b_M_work 3 = .ok (.iload_n 3, 1) := by decide +kernel
theorem d_M_work_4 : decode b_M_work 4 = .ok (.iload 4, 2) := by decide +kernel
theorem d_M_work_6 : decode b_M_work 6 = .ok (.invokevirtual 83, 3) := by decide +kernel
theorem d_M_work_9 : decode b_M_work 9 = .ok (.ifCond .ne 5, 3) := by decide +kernel
theorem d_M_work_12 : decode b_M_work 12 = .ok (.iconst (-1), 1) := by decide +kernel
theorem d_M_work_13 : decode b_M_work 13 = .ok (.ireturn, 1) := by decide +kernel
theorem d_M_work_14 : decode b_M_work 14 = .ok (.aload_n 0, 1) := by decide +kernel
theorem d_M_work_15 : decode b_M_work 15 = .ok (.iload_n 1, 1) := by decide +kernel
theorem d_M_work_16 : decode b_M_work 16 = .ok (.iload_n 2, 1) := by decide +kernel
theorem d_M_work_17 : decode b_M_work 17 = .ok (.iload_n 3, 1) := by decide +kernel
theorem d_M_work_18 : decode b_M_work 18 = .ok (.iload 4, 2) := by decide +kernel
theorem d_M_work_20 : decode b_M_work 20 = .ok (.iconst 0, 1) := by decide +kernel
theorem d_M_work_21 : decode b_M_work 21 = .ok (.invokevirtual 87, 3) := by decide +kernel
theorem d_M_work_24 : decode b_M_work 24 = .ok (.aload_n 0, 1) := by decide +kernel
theorem d_M_work_25 : decode b_M_work 25 = .ok (.getfield 80, 3) := by decide +kernel
theorem d_M_work_28 : decode b_M_work 28 = .ok (.ireturn, 1) := by decide +kernel
theorem d_M_first_0 : decode b_M_first 0 = .ok (.aload_n 0, 1) := by decide +kernel
theorem d_M_first_1 : decode b_M_first 1 = .ok (.iload_n 1, 1) := by decide +kernel
