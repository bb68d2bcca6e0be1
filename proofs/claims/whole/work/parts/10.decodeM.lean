theorem dM_in_0 : decode bM_in 0 = .ok (.iload_n 0, 1) := by decide +kernel
theorem dM_in_1 : decode bM_in 1 = .ok (.iload_n 1, 1) := by decide +kernel
theorem dM_in_2 : decode bM_in 2 = .ok (.if_icmp .lt 12, 3) := by decide +kernel
theorem dM_in_5 : decode bM_in 5 = .ok (.iload_n 0, 1) := by decide +kernel
theorem dM_in_6 : decode bM_in 6 = .ok (.iload_n 2, 1) := by decide +kernel
theorem dM_in_7 : decode bM_in 7 = .ok (.if_icmp .gt 7, 3) := by decide +kernel
theorem dM_in_10 : decode bM_in 10 = .ok (.iconst 1, 1) := by decide +kernel
theorem dM_in_11 : decode bM_in 11 = .ok (.goto 4, 3) := by decide +kernel
theorem dM_in_14 : decode bM_in 14 = .ok (.iconst 0, 1) := by decide +kernel
theorem dM_in_15 : decode bM_in 15 = .ok (.ireturn, 1) := by decide +kernel
theorem dM_isItem_0 : decode bM_isItem 0 = .ok (.iload_n 1, 1) := by decide +kernel
theorem dM_isItem_1 : decode bM_isItem 1 = .ok (.iconst 0, 1) := by decide +kernel
theorem dM_isItem_2 : decode bM_isItem 2 = .ok (.aload_n 0, 1) := by decide +kernel
theorem dM_isItem_3 : decode bM_isItem 3 = .ok (.getfield 7, 3) := by decide +kernel
theorem dM_isItem_6 : decode bM_isItem 6 = .ok (.bipush 50, 2) := by decide +kernel
theorem dM_isItem_8 : decode bM_isItem 8 = .ok (.iaload, 1) := by decide +kernel
theorem dM_isItem_9 : decode bM_isItem 9 = .ok (.iconst 1, 1) := by decide +kernel
theorem dM_isItem_10 : decode bM_isItem 10 = .ok (.isub, 1) := by decide +kernel
theorem dM_isItem_11 : decode bM_isItem 11 = .ok (.invokestatic 45, 3) := by decide +kernel
theorem dM_isItem_14 : decode bM_isItem 14 = .ok (.ireturn, 1) := by decide +kernel
theorem dM_isSize_0 : decode bM_isSize 0 = .ok (.iload_n 1, 1) := by decide +kernel
theorem dM_isSize_1 : decode bM_isSize 1 = .ok (.iconst 1, 1) := by decide +kernel
theorem dM_isSize_2 : decode bM_isSize 2 = .ok (.iload_n 0, 1) := by decide +kernel
theorem dM_isSize_3 : decode bM_isSize 3 = .ok (.ifCond .ne 8, 3) := by decide +kernel
theorem dM_isSize_6 : decode bM_isSize 6 = .ok (.bipush 12, 2) := by decide +kernel
theorem dM_isSize_8 : decode bM_isSize 8 = .ok (.goto 5, 3) := by decide +kernel
theorem dM_isSize_11 : decode bM_isSize 11 = .ok (.bipush 80, 2) := by decide +kernel
theorem dM_isSize_13 : decode bM_isSize 13 = .ok (.invokestatic 45, 3) := by decide +kernel
theorem dM_isSize_16 : decode bM_isSize 16 = .ok (.ireturn, 1) := by decide +kernel
theorem dM_add_0 : decode bM_add 0 = .ok (.iload_n 1, 1) := by decide +kernel
theorem dM_add_1 : decode bM_add 1 = .ok (.iconst 0, 1) := by decide +kernel
theorem dM_add_2 : decode bM_add 2 = .ok (.iconst 2, 1) := by decide +kernel
theorem dM_add_3 : decode bM_add 3 = .ok (.invokestatic 45, 3) := by decide +kernel
theorem dM_add_6 : decode bM_add 6 = .ok (.ifCond .eq 11, 3) := by decide +kernel
theorem dM_add_9 : decode bM_add 9 = .ok (.iload_n 1, 1) := by decide +kernel
theorem dM_add_10 : decode bM_add 10 = .ok (.iload_n 2, 1) := by decide +kernel
theorem dM_add_11 : decode bM_add 11 = .ok (.invokestatic 49, 3) := by decide +kernel
theorem dM_add_14 : decode bM_add 14 = .ok (.ifCond .ne 6, 3) := by decide +kernel
theorem dM_add_17 : decode bM_add 17 = .ok (.bipush (-2), 2) := by decide +kernel
theorem dM_add_19 : decode bM_add 19 = .ok (.ireturn, 1) := by decide +kernel
theorem dM_add_20 : decode bM_add 20 = .ok (.iload_n 1, 1) := by decide +kernel
theorem dM_add_21 : decode bM_add 21 = .ok (.ifCond .eq 33, 3) := by decide +kernel
theorem dM_add_24 : decode bM_add 24 = .ok (.iload_n 3, 1) := by decide +kernel
theorem dM_add_25 : decode bM_add 25 = .ok (.iconst 0, 1) := by decide +kernel
theorem dM_add_26 : decode bM_add 26 = .ok (.bipush 30, 2) := by decide +kernel
theorem dM_add_28 : decode bM_add 28 = .ok (.invokestatic 45, 3) := by decide +kernel
theorem dM_add_31 : decode bM_add 31 = .ok (.ifCond .eq 20, 3) := by decide +kernel
theorem dM_add_34 : decode bM_add 34 = .ok (.iload 4, 2) := by decide +kernel
theorem dM_add_36 : decode bM_add 36 = .ok (.iconst 0, 1) := by decide +kernel
theorem dM_add_37 : decode bM_add 37 = .ok (.bipush 30, 2) := by decide +kernel
theorem dM_add_39 : decode bM_add 39 = .ok (.invokestatic 45, 3) := by decide +kernel
theorem dM_add_42 : decode bM_add 42 = .ok (.ifCond .eq 9, 3) := by decide +kernel
theorem dM_add_45 : decode bM_add 45 = .ok (.iload_n 3, 1) := by decide +kernel
theorem dM_add_46 : decode bM_add 46 = .ok (.iload 4, 2) := by decide +kernel
theorem dM_add_48 : decode bM_add 48 = .ok (.if_icmp .le 6, 3) := by decide +kernel
theorem dM_add_51 : decode bM_add 51 = .ok (.bipush (-2), 2) := by decide +kernel
theorem dM_add_53 : decode bM_add 53 = .ok (.ireturn, 1) := by decide +kernel
theorem dM_add_54 : decode bM_add 54 = .ok (.aload_n 0, 1) := by decide +kernel
theorem dM_add_55 : decode bM_add 55 = .ok (.getfield 7, 3) := by decide +kernel
theorem dM_add_58 : decode bM_add 58 = .ok (.bipush 50, 2) := by decide +kernel
theorem dM_add_60 : decode bM_add 60 = .ok (.iaload, 1) := by decide +kernel
theorem dM_add_61 : decode bM_add 61 = .ok (.istore 5, 2) := by decide +kernel
theorem dM_add_63 : decode bM_add 63 = .ok (.iload 5, 2) := by decide +kernel
theorem dM_add_65 : decode bM_add 65 = .ok (.bipush 12, 2) := by decide +kernel
theorem dM_add_67 : decode bM_add 67 = .ok (.if_icmp .ne 6, 3) := by decide +kernel
theorem dM_add_70 : decode bM_add 70 = .ok (.bipush (-4), 2) := by decide +kernel
theorem dM_add_72 : decode bM_add 72 = .ok (.ireturn, 1) := by decide +kernel
theorem dM_add_73 : decode bM_add 73 = .ok (.aload_n 0, 1) := by decide +kernel
theorem dM_add_74 : decode bM_add 74 = .ok (.getfield 7, 3) := by decide +kernel
theorem dM_add_77 : decode bM_add 77 = .ok (.iload 5, 2) := by decide +kernel
theorem dM_add_79 : decode bM_add 79 = .ok (.iload_n 1, 1) := by decide +kernel
theorem dM_add_80 : decode bM_add 80 = .ok (.iastore, 1) := by decide +kernel
theorem dM_add_81 : decode bM_add 81 = .ok (.aload_n 0, 1) := by decide +kernel
theorem dM_add_82 : decode bM_add 82 = .ok (.getfield 7, 3) := by decide +kernel
theorem dM_add_85 : decode bM_add 85 = .ok (.bipush 12, 2) := by decide +kernel
theorem dM_add_87 : decode bM_add 87 = .ok (.iload 5, 2) := by decide +kernel
theorem dM_add_89 : decode bM_add 89 = .ok (.iadd, 1) := by decide +kernel
theorem dM_add_90 : decode bM_add 90 = .ok (.iload_n 2, 1) := by decide +kernel
theorem dM_add_91 : decode bM_add 91 = .ok (.iastore, 1) := by decide +kernel
theorem dM_add_92 : decode bM_add 92 = .ok (.aload_n 0, 1) := by decide +kernel
theorem dM_add_93 : decode bM_add 93 = .ok (.getfield 7, 3) := by decide +kernel
theorem dM_add_96 : decode bM_add 96 = .ok (.bipush 24, 2) := by decide +kernel
theorem dM_add_98 : decode bM_add 98 = .ok (.iload 5, 2) := by decide +kernel
theorem dM_add_100 : decode bM_add 100 = .ok (.iadd, 1) := by decide +kernel
theorem dM_add_101 : decode bM_add 101 = .ok (.iload_n 1, 1) := by decide +kernel
theorem dM_add_102 : decode bM_add 102 = .ok (.ifCond .ne 7, 3) := by decide +kernel
theorem dM_add_105 : decode bM_add 105 = .ok (.iconst 0, 1) := by decide +kernel
theorem dM_add_106 : decode bM_add 106 = .ok (.goto 4, 3) := by decide +kernel
theorem dM_add_109 : decode bM_add 109 = .ok (.iload_n 3, 1) := by decide +kernel
theorem dM_add_110 : decode bM_add 110 = .ok (.iastore, 1) := by decide +kernel
theorem dM_add_111 : decode bM_add 111 = .ok (.aload_n 0, 1) := by decide +kernel
theorem dM_add_112 : decode bM_add 112 = .ok (.getfield 7, 3) := by decide +kernel
theorem dM_add_115 : decode bM_add 115 = .ok (.bipush 36, 2) := by decide +kernel
theorem dM_add_117 : decode bM_add 117 = .ok (.iload 5, 2) := by decide +kernel
theorem dM_add_119 : decode bM_add 119 = .ok (.iadd, 1) := by decide +kernel
theorem dM_add_120 : decode bM_add 120 = .ok (.iload_n 1, 1) := by decide +kernel
theorem dM_add_121 : decode bM_add 121 = .ok (.ifCond .ne 7, 3) := by decide +kernel
theorem dM_add_124 : decode bM_add 124 = .ok (.iconst 0, 1) := by decide +kernel
theorem dM_add_125 : decode bM_add 125 = .ok (.goto 5, 3) := by decide +kernel
theorem dM_add_128 : decode bM_add 128 = .ok (.iload 4, 2) := by decide +kernel
theorem dM_add_130 : decode bM_add 130 = .ok (.iastore, 1) := by decide +kernel
theorem dM_add_131 : decode bM_add 131 = .ok (.aload_n 0, 1) := by decide +kernel
theorem dM_add_132 : decode bM_add 132 = .ok (.getfield 7, 3) := by decide +kernel
theorem dM_add_135 : decode bM_add 135 = .ok (.bipush 50, 2) := by decide +kernel
theorem dM_add_137 : decode bM_add 137 = .ok (.dup2, 1) := by decide +kernel
theorem dM_add_138 : decode bM_add 138 = .ok (.iaload, 1) := by decide +kernel
theorem dM_add_139 : decode bM_add 139 = .ok (.iconst 1, 1) := by decide +kernel
theorem dM_add_140 : decode bM_add 140 = .ok (.iadd, 1) := by decide +kernel
theorem dM_add_141 : decode bM_add 141 = .ok (.iastore, 1) := by decide +kernel
theorem dM_add_142 : decode bM_add 142 = .ok (.iload 5, 2) := by decide +kernel
theorem dM_add_144 : decode bM_add 144 = .ok (.ireturn, 1) := by decide +kernel
theorem dM_change_0 : decode bM_change 0 = .ok (.aload_n 0, 1) := by decide +kernel
theorem dM_change_1 : decode bM_change 1 = .ok (.iload_n 1, 1) := by decide +kernel
theorem dM_change_2 : decode bM_change 2 = .ok (.invokevirtual 53, 3) := by decide +kernel
theorem dM_change_5 : decode bM_change 5 = .ok (.ifCond .ne 5, 3) := by decide +kernel
theorem dM_change_8 : decode bM_change 8 = .ok (.iconst (-1), 1) := by decide +kernel
theorem dM_change_9 : decode bM_change 9 = .ok (.ireturn, 1) := by decide +kernel
theorem dM_change_10 : decode bM_change 10 = .ok (.iload_n 2, 1) := by decide +kernel
theorem dM_change_11 : decode bM_change 11 = .ok (.iconst 1, 1) := by decide +kernel
theorem dM_change_12 : decode bM_change 12 = .ok (.iconst 3, 1) := by decide +kernel
theorem dM_change_13 : decode bM_change 13 = .ok (.invokestatic 45, 3) := by decide +kernel
theorem dM_change_16 : decode bM_change 16 = .ok (.ifCond .ne 6, 3) := by decide +kernel
theorem dM_change_19 : decode bM_change 19 = .ok (.bipush (-2), 2) := by decide +kernel
theorem dM_change_21 : decode bM_change 21 = .ok (.ireturn, 1) := by decide +kernel
theorem dM_change_22 : decode bM_change 22 = .ok (.iload_n 2, 1) := by decide +kernel
theorem dM_change_23 : decode bM_change 23 = .ok (.iconst 1, 1) := by decide +kernel
theorem dM_change_24 : decode bM_change 24 = .ok (.if_icmp .ne 16, 3) := by decide +kernel
theorem dM_change_27 : decode bM_change 27 = .ok (.aload_n 0, 1) := by decide +kernel
theorem dM_change_28 : decode bM_change 28 = .ok (.getfield 7, 3) := by decide +kernel
theorem dM_change_31 : decode bM_change 31 = .ok (.iload_n 1, 1) := by decide +kernel
theorem dM_change_32 : decode bM_change 32 = .ok (.iaload, 1) := by decide +kernel
theorem dM_change_33 : decode bM_change 33 = .ok (.iload_n 3, 1) := by decide +kernel
theorem dM_change_34 : decode bM_change 34 = .ok (.invokestatic 49, 3) := by decide +kernel
theorem dM_change_37 : decode bM_change 37 = .ok (.goto 27, 3) := by decide +kernel
theorem dM_change_40 : decode bM_change 40 = .ok (.aload_n 0, 1) := by decide +kernel
theorem dM_change_41 : decode bM_change 41 = .ok (.getfield 7, 3) := by decide +kernel
theorem dM_change_44 : decode bM_change 44 = .ok (.iload_n 1, 1) := by decide +kernel
theorem dM_change_45 : decode bM_change 45 = .ok (.iaload, 1) := by decide +kernel
theorem dM_change_46 : decode bM_change 46 = .ok (.ifCond .eq 17, 3) := by decide +kernel
theorem dM_change_49 : decode bM_change 49 = .ok (.iload_n 3, 1) := by decide +kernel
theorem dM_change_50 : decode bM_change 50 = .ok (.iconst 0, 1) := by decide +kernel
theorem dM_change_51 : decode bM_change 51 = .ok (.bipush 30, 2) := by decide +kernel
theorem dM_change_53 : decode bM_change 53 = .ok (.invokestatic 45, 3) := by decide +kernel
theorem dM_change_56 : decode bM_change 56 = .ok (.ifCond .eq 7, 3) := by decide +kernel
theorem dM_change_59 : decode bM_change 59 = .ok (.iconst 1, 1) := by decide +kernel
theorem dM_change_60 : decode bM_change 60 = .ok (.goto 4, 3) := by decide +kernel
theorem dM_change_63 : decode bM_change 63 = .ok (.iconst 0, 1) := by decide +kernel
theorem dM_change_64 : decode bM_change 64 = .ok (.istore 4, 2) := by decide +kernel
theorem dM_change_66 : decode bM_change 66 = .ok (.iload 4, 2) := by decide +kernel
theorem dM_change_68 : decode bM_change 68 = .ok (.ifCond .eq 39, 3) := by decide +kernel
theorem dM_change_71 : decode bM_change 71 = .ok (.iload_n 2, 1) := by decide +kernel
theorem dM_change_72 : decode bM_change 72 = .ok (.iconst 2, 1) := by decide +kernel
theorem dM_change_73 : decode bM_change 73 = .ok (.if_icmp .ne 16, 3) := by decide +kernel
theorem dM_change_76 : decode bM_change 76 = .ok (.iload_n 3, 1) := by decide +kernel
theorem dM_change_77 : decode bM_change 77 = .ok (.aload_n 0, 1) := by decide +kernel
theorem dM_change_78 : decode bM_change 78 = .ok (.getfield 7, 3) := by decide +kernel
theorem dM_change_81 : decode bM_change 81 = .ok (.bipush 36, 2) := by decide +kernel
theorem dM_change_83 : decode bM_change 83 = .ok (.iload_n 1, 1) := by decide +kernel
theorem dM_change_84 : decode bM_change 84 = .ok (.iadd, 1) := by decide +kernel
theorem dM_change_85 : decode bM_change 85 = .ok (.iaload, 1) := by decide +kernel
theorem dM_change_86 : decode bM_change 86 = .ok (.if_icmp .gt 21, 3) := by decide +kernel
theorem dM_change_89 : decode bM_change 89 = .ok (.iload_n 2, 1) := by decide +kernel
theorem dM_change_90 : decode bM_change 90 = .ok (.iconst 3, 1) := by decide +kernel
theorem dM_change_91 : decode bM_change 91 = .ok (.if_icmp .ne 19, 3) := by decide +kernel
theorem dM_change_94 : decode bM_change 94 = .ok (.iload_n 3, 1) := by decide +kernel
theorem dM_change_95 : decode bM_change 95 = .ok (.aload_n 0, 1) := by decide +kernel
theorem dM_change_96 : decode bM_change 96 = .ok (.getfield 7, 3) := by decide +kernel
theorem dM_change_99 : decode bM_change 99 = .ok (.bipush 24, 2) := by decide +kernel
theorem dM_change_101 : decode bM_change 101 = .ok (.iload_n 1, 1) := by decide +kernel
theorem dM_change_102 : decode bM_change 102 = .ok (.iadd, 1) := by decide +kernel
theorem dM_change_103 : decode bM_change 103 = .ok (.iaload, 1) := by decide +kernel
theorem dM_change_104 : decode bM_change 104 = .ok (.if_icmp .ge 6, 3) := by decide +kernel
theorem dM_change_107 : decode bM_change 107 = .ok (.bipush (-2), 2) := by decide +kernel
theorem dM_change_109 : decode bM_change 109 = .ok (.ireturn, 1) := by decide +kernel
theorem dM_change_110 : decode bM_change 110 = .ok (.bipush 12, 2) := by decide +kernel
theorem dM_change_112 : decode bM_change 112 = .ok (.iload_n 2, 1) := by decide +kernel
theorem dM_change_113 : decode bM_change 113 = .ok (.imul, 1) := by decide +kernel
theorem dM_change_114 : decode bM_change 114 = .ok (.iload_n 1, 1) := by decide +kernel
theorem dM_change_115 : decode bM_change 115 = .ok (.iadd, 1) := by decide +kernel
theorem dM_change_116 : decode bM_change 116 = .ok (.istore 5, 2) := by decide +kernel
theorem dM_change_118 : decode bM_change 118 = .ok (.aload_n 0, 1) := by decide +kernel
theorem dM_change_119 : decode bM_change 119 = .ok (.getfield 7, 3) := by decide +kernel
theorem dM_change_122 : decode bM_change 122 = .ok (.iload 5, 2) := by decide +kernel
theorem dM_change_124 : decode bM_change 124 = .ok (.iaload, 1) := by decide +kernel
theorem dM_change_125 : decode bM_change 125 = .ok (.istore 6, 2) := by decide +kernel
theorem dM_change_127 : decode bM_change 127 = .ok (.aload_n 0, 1) := by decide +kernel
theorem dM_change_128 : decode bM_change 128 = .ok (.getfield 7, 3) := by decide +kernel
theorem dM_change_131 : decode bM_change 131 = .ok (.iload 5, 2) := by decide +kernel
theorem dM_change_133 : decode bM_change 133 = .ok (.iload_n 3, 1) := by decide +kernel
theorem dM_change_134 : decode bM_change 134 = .ok (.iastore, 1) := by decide +kernel
theorem dM_change_135 : decode bM_change 135 = .ok (.iload 6, 2) := by decide +kernel
theorem dM_change_137 : decode bM_change 137 = .ok (.ireturn, 1) := by decide +kernel
theorem dM_shift_0 : decode bM_shift 0 = .ok (.iconst 0, 1) := by decide +kernel
theorem dM_shift_1 : decode bM_shift 1 = .ok (.istore_n 3, 1) := by decide +kernel
theorem dM_shift_2 : decode bM_shift 2 = .ok (.iload_n 3, 1) := by decide +kernel
theorem dM_shift_3 : decode bM_shift 3 = .ok (.bipush 36, 2) := by decide +kernel
theorem dM_shift_5 : decode bM_shift 5 = .ok (.if_icmp .gt 25, 3) := by decide +kernel
theorem dM_shift_8 : decode bM_shift 8 = .ok (.aload_n 0, 1) := by decide +kernel
theorem dM_shift_9 : decode bM_shift 9 = .ok (.getfield 7, 3) := by decide +kernel
theorem dM_shift_12 : decode bM_shift 12 = .ok (.iload_n 3, 1) := by decide +kernel
theorem dM_shift_13 : decode bM_shift 13 = .ok (.iload_n 2, 1) := by decide +kernel
theorem dM_shift_14 : decode bM_shift 14 = .ok (.iadd, 1) := by decide +kernel
theorem dM_shift_15 : decode bM_shift 15 = .ok (.aload_n 0, 1) := by decide +kernel
theorem dM_shift_16 : decode bM_shift 16 = .ok (.getfield 7, 3) := by decide +kernel
theorem dM_shift_19 : decode bM_shift 19 = .ok (.iload_n 3, 1) := by decide +kernel
theorem dM_shift_20 : decode bM_shift 20 = .ok (.iload_n 1, 1) := by decide +kernel
theorem dM_shift_21 : decode bM_shift 21 = .ok (.iadd, 1) := by decide +kernel
theorem dM_shift_22 : decode bM_shift 22 = .ok (.iaload, 1) := by decide +kernel
theorem dM_shift_23 : decode bM_shift 23 = .ok (.iastore, 1) := by decide +kernel
theorem dM_shift_24 : decode bM_shift 24 = .ok (.iinc 3 12, 3) := by decide +kernel
theorem dM_shift_27 : decode bM_shift 27 = .ok (.goto (-25), 3) := by decide +kernel
theorem dM_shift_30 : decode bM_shift 30 = .ok (.return_, 1) := by decide +kernel
theorem dM_remove_0 : decode bM_remove 0 = .ok (.aload_n 0, 1) := by decide +kernel
theorem dM_remove_1 : decode bM_remove 1 = .ok (.iload_n 1, 1) := by decide +kernel
theorem dM_remove_2 : decode bM_remove 2 = .ok (.invokevirtual 53, 3) := by decide +kernel
theorem dM_remove_5 : decode bM_remove 5 = .ok (.ifCond .ne 5, 3) := by decide +kernel
theorem dM_remove_8 : decode bM_remove 8 = .ok (.iconst (-1), 1) := by decide +kernel
theorem dM_remove_9 : decode bM_remove 9 = .ok (.ireturn, 1) := by decide +kernel
theorem dM_remove_10 : decode bM_remove 10 = .ok (.aload_n 0, 1) := by decide +kernel
theorem dM_remove_11 : decode bM_remove 11 = .ok (.getfield 7, 3) := by decide +kernel
theorem dM_remove_14 : decode bM_remove 14 = .ok (.bipush 50, 2) := by decide +kernel
theorem dM_remove_16 : decode bM_remove 16 = .ok (.dup2, 1) := by decide +kernel
theorem dM_remove_17 : decode bM_remove 17 = .ok (.iaload, 1) := by decide +kernel
theorem dM_remove_18 : decode bM_remove 18 = .ok (.iconst 1, 1) := by decide +kernel
theorem dM_remove_19 : decode bM_remove 19 = .ok (.isub, 1) := by decide +kernel
theorem dM_remove_20 : decode bM_remove 20 = .ok (.iastore, 1) := by decide +kernel
theorem dM_remove_21 : decode bM_remove 21 = .ok (.iload_n 1, 1) := by decide +kernel
theorem dM_remove_22 : decode bM_remove 22 = .ok (.istore_n 2, 1) := by decide +kernel
theorem dM_remove_23 : decode bM_remove 23 = .ok (.iload_n 2, 1) := by decide +kernel
theorem dM_remove_24 : decode bM_remove 24 = .ok (.aload_n 0, 1) := by decide +kernel
theorem dM_remove_25 : decode bM_remove 25 = .ok (.getfield 7, 3) := by decide +kernel
theorem dM_remove_28 : decode bM_remove 28 = .ok (.bipush 50, 2) := by decide +kernel
theorem dM_remove_30 : decode bM_remove 30 = .ok (.iaload, 1) := by decide +kernel
theorem dM_remove_31 : decode bM_remove 31 = .ok (.if_icmp .ge 17, 3) := by decide +kernel
theorem dM_remove_34 : decode bM_remove 34 = .ok (.aload_n 0, 1) := by decide +kernel
theorem dM_remove_35 : decode bM_remove 35 = .ok (.iload_n 2, 1) := by decide +kernel
theorem dM_remove_36 : decode bM_remove 36 = .ok (.iconst 1, 1) := by decide +kernel
theorem dM_remove_37 : decode bM_remove 37 = .ok (.iadd, 1) := by decide +kernel
theorem dM_remove_38 : decode bM_remove 38 = .ok (.iload_n 2, 1) := by decide +kernel
theorem dM_remove_39 : decode bM_remove 39 = .ok (.invokevirtual 57, 3) := by decide +kernel
theorem dM_remove_42 : decode bM_remove 42 = .ok (.iinc 2 1, 3) := by decide +kernel
theorem dM_remove_45 : decode bM_remove 45 = .ok (.goto (-22), 3) := by decide +kernel
theorem dM_remove_48 : decode bM_remove 48 = .ok (.aload_n 0, 1) := by decide +kernel
theorem dM_remove_49 : decode bM_remove 49 = .ok (.getfield 7, 3) := by decide +kernel
theorem dM_remove_52 : decode bM_remove 52 = .ok (.bipush 50, 2) := by decide +kernel
theorem dM_remove_54 : decode bM_remove 54 = .ok (.iaload, 1) := by decide +kernel
theorem dM_remove_55 : decode bM_remove 55 = .ok (.ireturn, 1) := by decide +kernel
theorem dM_swap_0 : decode bM_swap 0 = .ok (.iconst 0, 1) := by decide +kernel
theorem dM_swap_1 : decode bM_swap 1 = .ok (.istore_n 3, 1) := by decide +kernel
theorem dM_swap_2 : decode bM_swap 2 = .ok (.iload_n 3, 1) := by decide +kernel
theorem dM_swap_3 : decode bM_swap 3 = .ok (.bipush 36, 2) := by decide +kernel
theorem dM_swap_5 : decode bM_swap 5 = .ok (.if_icmp .gt 45, 3) := by decide +kernel
theorem dM_swap_8 : decode bM_swap 8 = .ok (.aload_n 0, 1) := by decide +kernel
theorem dM_swap_9 : decode bM_swap 9 = .ok (.getfield 7, 3) := by decide +kernel
theorem dM_swap_12 : decode bM_swap 12 = .ok (.iload_n 3, 1) := by decide +kernel
theorem dM_swap_13 : decode bM_swap 13 = .ok (.iload_n 1, 1) := by decide +kernel
theorem dM_swap_14 : decode bM_swap 14 = .ok (.iadd, 1) := by decide +kernel
theorem dM_swap_15 : decode bM_swap 15 = .ok (.iaload, 1) := by decide +kernel
theorem dM_swap_16 : decode bM_swap 16 = .ok (.istore 4, 2) := by decide +kernel
theorem dM_swap_18 : decode bM_swap 18 = .ok (.aload_n 0, 1) := by decide +kernel
theorem dM_swap_19 : decode bM_swap 19 = .ok (.getfield 7, 3) := by decide +kernel
theorem dM_swap_22 : decode bM_swap 22 = .ok (.iload_n 3, 1) := by decide +kernel
theorem dM_swap_23 : decode bM_swap 23 = .ok (.iload_n 1, 1) := by decide +kernel
theorem dM_swap_24 : decode bM_swap 24 = .ok (.iadd, 1) := by decide +kernel
theorem dM_swap_25 : decode bM_swap 25 = .ok (.aload_n 0, 1) := by decide +kernel
theorem dM_swap_26 : decode bM_swap 26 = .ok (.getfield 7, 3) := by decide +kernel
theorem dM_swap_29 : decode bM_swap 29 = .ok (.iload_n 3, 1) := by decide +kernel
theorem dM_swap_30 : decode bM_swap 30 = .ok (.iload_n 2, 1) := by decide +kernel
theorem dM_swap_31 : decode bM_swap 31 = .ok (.iadd, 1) := by decide +kernel
theorem dM_swap_32 : decode bM_swap 32 = .ok (.iaload, 1) := by decide +kernel
theorem dM_swap_33 : decode bM_swap 33 = .ok (.iastore, 1) := by decide +kernel
theorem dM_swap_34 : decode bM_swap 34 = .ok (.aload_n 0, 1) := by decide +kernel
theorem dM_swap_35 : decode bM_swap 35 = .ok (.getfield 7, 3) := by decide +kernel
theorem dM_swap_38 : decode bM_swap 38 = .ok (.iload_n 3, 1) := by decide +kernel
theorem dM_swap_39 : decode bM_swap 39 = .ok (.iload_n 2, 1) := by decide +kernel
theorem dM_swap_40 : decode bM_swap 40 = .ok (.iadd, 1) := by decide +kernel
theorem dM_swap_41 : decode bM_swap 41 = .ok (.iload 4, 2) := by decide +kernel
theorem dM_swap_43 : decode bM_swap 43 = .ok (.iastore, 1) := by decide +kernel
theorem dM_swap_44 : decode bM_swap 44 = .ok (.iinc 3 12, 3) := by decide +kernel
theorem dM_swap_47 : decode bM_swap 47 = .ok (.goto (-45), 3) := by decide +kernel
theorem dM_swap_50 : decode bM_swap 50 = .ok (.return_, 1) := by decide +kernel
theorem dM_move_0 : decode bM_move 0 = .ok (.aload_n 0, 1) := by decide +kernel
theorem dM_move_1 : decode bM_move 1 = .ok (.iload_n 1, 1) := by decide +kernel
theorem dM_move_2 : decode bM_move 2 = .ok (.invokevirtual 53, 3) := by decide +kernel
theorem dM_move_5 : decode bM_move 5 = .ok (.ifCond .ne 5, 3) := by decide +kernel
theorem dM_move_8 : decode bM_move 8 = .ok (.iconst (-1), 1) := by decide +kernel
theorem dM_move_9 : decode bM_move 9 = .ok (.ireturn, 1) := by decide +kernel
theorem dM_move_10 : decode bM_move 10 = .ok (.aload_n 0, 1) := by decide +kernel
theorem dM_move_11 : decode bM_move 11 = .ok (.iload_n 2, 1) := by decide +kernel
theorem dM_move_12 : decode bM_move 12 = .ok (.invokevirtual 53, 3) := by decide +kernel
theorem dM_move_15 : decode bM_move 15 = .ok (.ifCond .ne 6, 3) := by decide +kernel
theorem dM_move_18 : decode bM_move 18 = .ok (.bipush (-2), 2) := by decide +kernel
theorem dM_move_20 : decode bM_move 20 = .ok (.ireturn, 1) := by decide +kernel
theorem dM_move_21 : decode bM_move 21 = .ok (.iload_n 1, 1) := by decide +kernel
theorem dM_move_22 : decode bM_move 22 = .ok (.istore_n 3, 1) := by decide +kernel
theorem dM_move_23 : decode bM_move 23 = .ok (.iload_n 3, 1) := by decide +kernel
theorem dM_move_24 : decode bM_move 24 = .ok (.iload_n 2, 1) := by decide +kernel
theorem dM_move_25 : decode bM_move 25 = .ok (.if_icmp .ge 17, 3) := by decide +kernel
theorem dM_move_28 : decode bM_move 28 = .ok (.aload_n 0, 1) := by decide +kernel
theorem dM_move_29 : decode bM_move 29 = .ok (.iload_n 3, 1) := by decide +kernel
theorem dM_move_30 : decode bM_move 30 = .ok (.iload_n 3, 1) := by decide +kernel
theorem dM_move_31 : decode bM_move 31 = .ok (.iconst 1, 1) := by decide +kernel
theorem dM_move_32 : decode bM_move 32 = .ok (.iadd, 1) := by decide +kernel
theorem dM_move_33 : decode bM_move 33 = .ok (.invokevirtual 61, 3) := by decide +kernel
theorem dM_move_36 : decode bM_move 36 = .ok (.iinc 3 1, 3) := by decide +kernel
theorem dM_move_39 : decode bM_move 39 = .ok (.goto (-16), 3) := by decide +kernel
theorem dM_move_42 : decode bM_move 42 = .ok (.iload_n 1, 1) := by decide +kernel
theorem dM_move_43 : decode bM_move 43 = .ok (.istore_n 3, 1) := by decide +kernel
theorem dM_move_44 : decode bM_move 44 = .ok (.iload_n 3, 1) := by decide +kernel
theorem dM_move_45 : decode bM_move 45 = .ok (.iload_n 2, 1) := by decide +kernel
theorem dM_move_46 : decode bM_move 46 = .ok (.if_icmp .le 17, 3) := by decide +kernel
theorem dM_move_49 : decode bM_move 49 = .ok (.aload_n 0, 1) := by decide +kernel
theorem dM_move_50 : decode bM_move 50 = .ok (.iload_n 3, 1) := by decide +kernel
theorem dM_move_51 : decode bM_move 51 = .ok (.iload_n 3, 1) := by decide +kernel
theorem dM_move_52 : decode bM_move 52 = .ok (.iconst 1, 1) := by decide +kernel
theorem dM_move_53 : decode bM_move 53 = .ok (.isub, 1) := by decide +kernel
theorem dM_move_54 : decode bM_move 54 = .ok (.invokevirtual 61, 3) := by decide +kernel
theorem dM_move_57 : decode bM_move 57 = .ok (.iinc 3 (-1), 3) := by decide +kernel
theorem dM_move_60 : decode bM_move 60 = .ok (.goto (-16), 3) := by decide +kernel
theorem dM_move_63 : decode bM_move 63 = .ok (.iconst 1, 1) := by decide +kernel
theorem dM_move_64 : decode bM_move 64 = .ok (.ireturn, 1) := by decide +kernel
theorem dM_set_0 : decode bM_set 0 = .ok (.iload_n 1, 1) := by decide +kernel
theorem dM_set_1 : decode bM_set 1 = .ok (.iconst 0, 1) := by decide +kernel
theorem dM_set_2 : decode bM_set 2 = .ok (.iconst 1, 1) := by decide +kernel
theorem dM_set_3 : decode bM_set 3 = .ok (.invokestatic 45, 3) := by decide +kernel
theorem dM_set_6 : decode bM_set 6 = .ok (.ifCond .eq 32, 3) := by decide +kernel
theorem dM_set_9 : decode bM_set 9 = .ok (.iload_n 2, 1) := by decide +kernel
theorem dM_set_10 : decode bM_set 10 = .ok (.iload_n 1, 1) := by decide +kernel
theorem dM_set_11 : decode bM_set 11 = .ok (.ifCond .ne 7, 3) := by decide +kernel
theorem dM_set_14 : decode bM_set 14 = .ok (.iconst 3, 1) := by decide +kernel
theorem dM_set_15 : decode bM_set 15 = .ok (.goto 5, 3) := by decide +kernel
theorem dM_set_18 : decode bM_set 18 = .ok (.bipush 12, 2) := by decide +kernel
theorem dM_set_20 : decode bM_set 20 = .ok (.iload_n 1, 1) := by decide +kernel
theorem dM_set_21 : decode bM_set 21 = .ok (.ifCond .ne 8, 3) := by decide +kernel
theorem dM_set_24 : decode bM_set 24 = .ok (.bipush 20, 2) := by decide +kernel
theorem dM_set_26 : decode bM_set 26 = .ok (.goto 6, 3) := by decide +kernel
theorem dM_set_29 : decode bM_set 29 = .ok (.sipush 200, 3) := by decide +kernel
theorem dM_set_32 : decode bM_set 32 = .ok (.invokestatic 45, 3) := by decide +kernel
theorem dM_set_35 : decode bM_set 35 = .ok (.ifCond .ne 6, 3) := by decide +kernel
theorem dM_set_38 : decode bM_set 38 = .ok (.bipush (-2), 2) := by decide +kernel
theorem dM_set_40 : decode bM_set 40 = .ok (.ireturn, 1) := by decide +kernel
theorem dM_set_41 : decode bM_set 41 = .ok (.aload_n 0, 1) := by decide +kernel
theorem dM_set_42 : decode bM_set 42 = .ok (.getfield 7, 3) := by decide +kernel
theorem dM_set_45 : decode bM_set 45 = .ok (.bipush 48, 2) := by decide +kernel
theorem dM_set_47 : decode bM_set 47 = .ok (.iload_n 1, 1) := by decide +kernel
theorem dM_set_48 : decode bM_set 48 = .ok (.iadd, 1) := by decide +kernel
theorem dM_set_49 : decode bM_set 49 = .ok (.iaload, 1) := by decide +kernel
theorem dM_set_50 : decode bM_set 50 = .ok (.istore_n 3, 1) := by decide +kernel
theorem dM_set_51 : decode bM_set 51 = .ok (.aload_n 0, 1) := by decide +kernel
theorem dM_set_52 : decode bM_set 52 = .ok (.getfield 7, 3) := by decide +kernel
theorem dM_set_55 : decode bM_set 55 = .ok (.bipush 48, 2) := by decide +kernel
theorem dM_set_57 : decode bM_set 57 = .ok (.iload_n 1, 1) := by decide +kernel
theorem dM_set_58 : decode bM_set 58 = .ok (.iadd, 1) := by decide +kernel
theorem dM_set_59 : decode bM_set 59 = .ok (.iload_n 2, 1) := by decide +kernel
theorem dM_set_60 : decode bM_set 60 = .ok (.iastore, 1) := by decide +kernel
theorem dM_set_61 : decode bM_set 61 = .ok (.iload_n 3, 1) := by decide +kernel
theorem dM_set_62 : decode bM_set 62 = .ok (.ireturn, 1) := by decide +kernel
theorem dM_item_0 : decode bM_item 0 = .ok (.aload_n 0, 1) := by decide +kernel
theorem dM_item_1 : decode bM_item 1 = .ok (.iload_n 1, 1) := by decide +kernel
theorem dM_item_2 : decode bM_item 2 = .ok (.invokevirtual 53, 3) := by decide +kernel
theorem dM_item_5 : decode bM_item 5 = .ok (.ifCond .ne 5, 3) := by decide +kernel
theorem dM_item_8 : decode bM_item 8 = .ok (.iconst (-1), 1) := by decide +kernel
theorem dM_item_9 : decode bM_item 9 = .ok (.ireturn, 1) := by decide +kernel
theorem dM_item_10 : decode bM_item 10 = .ok (.iload_n 2, 1) := by decide +kernel
theorem dM_item_11 : decode bM_item 11 = .ok (.iconst 0, 1) := by decide +kernel
theorem dM_item_12 : decode bM_item 12 = .ok (.iconst 3, 1) := by decide +kernel
theorem dM_item_13 : decode bM_item 13 = .ok (.invokestatic 45, 3) := by decide +kernel
theorem dM_item_16 : decode bM_item 16 = .ok (.ifCond .eq 17, 3) := by decide +kernel
theorem dM_item_19 : decode bM_item 19 = .ok (.aload_n 0, 1) := by decide +kernel
theorem dM_item_20 : decode bM_item 20 = .ok (.getfield 7, 3) := by decide +kernel
theorem dM_item_23 : decode bM_item 23 = .ok (.bipush 12, 2) := by decide +kernel
theorem dM_item_25 : decode bM_item 25 = .ok (.iload_n 2, 1) := by decide +kernel
theorem dM_item_26 : decode bM_item 26 = .ok (.imul, 1) := by decide +kernel
theorem dM_item_27 : decode bM_item 27 = .ok (.iload_n 1, 1) := by decide +kernel
theorem dM_item_28 : decode bM_item 28 = .ok (.iadd, 1) := by decide +kernel
theorem dM_item_29 : decode bM_item 29 = .ok (.iaload, 1) := by decide +kernel
theorem dM_item_30 : decode bM_item 30 = .ok (.goto 5, 3) := by decide +kernel
theorem dM_item_33 : decode bM_item 33 = .ok (.bipush (-2), 2) := by decide +kernel
theorem dM_item_35 : decode bM_item 35 = .ok (.ireturn, 1) := by decide +kernel
theorem dM_layThings_0 : decode bM_layThings 0 = .ok (.aload_n 0, 1) := by decide +kernel
theorem dM_layThings_1 : decode bM_layThings 1 = .ok (.iconst 0, 1) := by decide +kernel
theorem dM_layThings_2 : decode bM_layThings 2 = .ok (.putfield 64, 3) := by decide +kernel
theorem dM_layThings_5 : decode bM_layThings 5 = .ok (.iconst 0, 1) := by decide +kernel
theorem dM_layThings_6 : decode bM_layThings 6 = .ok (.istore_n 1, 1) := by decide +kernel
theorem dM_layThings_7 : decode bM_layThings 7 = .ok (.iload_n 1, 1) := by decide +kernel
theorem dM_layThings_8 : decode bM_layThings 8 = .ok (.aload_n 0, 1) := by decide +kernel
theorem dM_layThings_9 : decode bM_layThings 9 = .ok (.getfield 7, 3) := by decide +kernel
theorem dM_layThings_12 : decode bM_layThings 12 = .ok (.bipush 50, 2) := by decide +kernel
theorem dM_layThings_14 : decode bM_layThings 14 = .ok (.iaload, 1) := by decide +kernel
theorem dM_layThings_15 : decode bM_layThings 15 = .ok (.if_icmp .ge 112, 3) := by decide +kernel
theorem dM_layThings_18 : decode bM_layThings 18 = .ok (.aload_n 0, 1) := by decide +kernel
theorem dM_layThings_19 : decode bM_layThings 19 = .ok (.getfield 7, 3) := by decide +kernel
theorem dM_layThings_22 : decode bM_layThings 22 = .ok (.iload_n 1, 1) := by decide +kernel
theorem dM_layThings_23 : decode bM_layThings 23 = .ok (.iaload, 1) := by decide +kernel
theorem dM_layThings_24 : decode bM_layThings 24 = .ok (.ifCond .ne 15, 3) := by decide +kernel
theorem dM_layThings_27 : decode bM_layThings 27 = .ok (.aload_n 0, 1) := by decide +kernel
theorem dM_layThings_28 : decode bM_layThings 28 = .ok (.getfield 7, 3) := by decide +kernel
theorem dM_layThings_31 : decode bM_layThings 31 = .ok (.bipush 12, 2) := by decide +kernel
theorem dM_layThings_33 : decode bM_layThings 33 = .ok (.iload_n 1, 1) := by decide +kernel
theorem dM_layThings_34 : decode bM_layThings 34 = .ok (.iadd, 1) := by decide +kernel
theorem dM_layThings_35 : decode bM_layThings 35 = .ok (.iaload, 1) := by decide +kernel
theorem dM_layThings_36 : decode bM_layThings 36 = .ok (.goto 4, 3) := by decide +kernel
theorem dM_layThings_39 : decode bM_layThings 39 = .ok (.iconst 1, 1) := by decide +kernel
theorem dM_layThings_40 : decode bM_layThings 40 = .ok (.istore_n 2, 1) := by decide +kernel
theorem dM_layThings_41 : decode bM_layThings 41 = .ok (.iconst 0, 1) := by decide +kernel
theorem dM_layThings_42 : decode bM_layThings 42 = .ok (.istore_n 3, 1) := by decide +kernel
theorem dM_layThings_43 : decode bM_layThings 43 = .ok (.iload_n 3, 1) := by decide +kernel
theorem dM_layThings_44 : decode bM_layThings 44 = .ok (.iload_n 2, 1) := by decide +kernel
theorem dM_layThings_45 : decode bM_layThings 45 = .ok (.if_icmp .ge 76, 3) := by decide +kernel
theorem dM_layThings_48 : decode bM_layThings 48 = .ok (.aload_n 0, 1) := by decide +kernel
theorem dM_layThings_49 : decode bM_layThings 49 = .ok (.getfield 20, 3) := by decide +kernel
theorem dM_layThings_52 : decode bM_layThings 52 = .ok (.aload_n 0, 1) := by decide +kernel
theorem dM_layThings_53 : decode bM_layThings 53 = .ok (.getfield 64, 3) := by decide +kernel
theorem dM_layThings_56 : decode bM_layThings 56 = .ok (.iload_n 1, 1) := by decide +kernel
theorem dM_layThings_57 : decode bM_layThings 57 = .ok (.iastore, 1) := by decide +kernel
theorem dM_layThings_58 : decode bM_layThings 58 = .ok (.aload_n 0, 1) := by decide +kernel
theorem dM_layThings_59 : decode bM_layThings 59 = .ok (.getfield 23, 3) := by decide +kernel
theorem dM_layThings_62 : decode bM_layThings 62 = .ok (.aload_n 0, 1) := by decide +kernel
theorem dM_layThings_63 : decode bM_layThings 63 = .ok (.getfield 64, 3) := by decide +kernel
theorem dM_layThings_66 : decode bM_layThings 66 = .ok (.iload_n 3, 1) := by decide +kernel
theorem dM_layThings_67 : decode bM_layThings 67 = .ok (.iastore, 1) := by decide +kernel
theorem dM_layThings_68 : decode bM_layThings 68 = .ok (.aload_n 0, 1) := by decide +kernel
theorem dM_layThings_69 : decode bM_layThings 69 = .ok (.getfield 26, 3) := by decide +kernel
theorem dM_layThings_72 : decode bM_layThings 72 = .ok (.aload_n 0, 1) := by decide +kernel
theorem dM_layThings_73 : decode bM_layThings 73 = .ok (.getfield 64, 3) := by decide +kernel
theorem dM_layThings_76 : decode bM_layThings 76 = .ok (.aload_n 0, 1) := by decide +kernel
theorem dM_layThings_77 : decode bM_layThings 77 = .ok (.getfield 7, 3) := by decide +kernel
theorem dM_layThings_80 : decode bM_layThings 80 = .ok (.iload_n 1, 1) := by decide +kernel
theorem dM_layThings_81 : decode bM_layThings 81 = .ok (.iaload, 1) := by decide +kernel
theorem dM_layThings_82 : decode bM_layThings 82 = .ok (.ifCond .ne 13, 3) := by decide +kernel
theorem dM_layThings_85 : decode bM_layThings 85 = .ok (.aload_n 0, 1) := by decide +kernel
theorem dM_layThings_86 : decode bM_layThings 86 = .ok (.getfield 7, 3) := by decide +kernel
theorem dM_layThings_89 : decode bM_layThings 89 = .ok (.bipush 48, 2) := by decide +kernel
theorem dM_layThings_91 : decode bM_layThings 91 = .ok (.iaload, 1) := by decide +kernel
theorem dM_layThings_92 : decode bM_layThings 92 = .ok (.goto 12, 3) := by decide +kernel
theorem dM_layThings_95 : decode bM_layThings 95 = .ok (.aload_n 0, 1) := by decide +kernel
theorem dM_layThings_96 : decode bM_layThings 96 = .ok (.getfield 7, 3) := by decide +kernel
theorem dM_layThings_99 : decode bM_layThings 99 = .ok (.bipush 12, 2) := by decide +kernel
theorem dM_layThings_101 : decode bM_layThings 101 = .ok (.iload_n 1, 1) := by decide +kernel
theorem dM_layThings_102 : decode bM_layThings 102 = .ok (.iadd, 1) := by decide +kernel
theorem dM_layThings_103 : decode bM_layThings 103 = .ok (.iaload, 1) := by decide +kernel
theorem dM_layThings_104 : decode bM_layThings 104 = .ok (.iastore, 1) := by decide +kernel
theorem dM_layThings_105 : decode bM_layThings 105 = .ok (.aload_n 0, 1) := by decide +kernel
theorem dM_layThings_106 : decode bM_layThings 106 = .ok (.dup, 1) := by decide +kernel
theorem dM_layThings_107 : decode bM_layThings 107 = .ok (.getfield 64, 3) := by decide +kernel
theorem dM_layThings_110 : decode bM_layThings 110 = .ok (.iconst 1, 1) := by decide +kernel
theorem dM_layThings_111 : decode bM_layThings 111 = .ok (.iadd, 1) := by decide +kernel
theorem dM_layThings_112 : decode bM_layThings 112 = .ok (.putfield 64, 3) := by decide +kernel
theorem dM_layThings_115 : decode bM_layThings 115 = .ok (.iinc 3 1, 3) := by decide +kernel
theorem dM_layThings_118 : decode bM_layThings 118 = .ok (.goto (-75), 3) := by decide +kernel
theorem dM_layThings_121 : decode bM_layThings 121 = .ok (.iinc 1 1, 3) := by decide +kernel
theorem dM_layThings_124 : decode bM_layThings 124 = .ok (.goto (-117), 3) := by decide +kernel
theorem dM_layThings_127 : decode bM_layThings 127 = .ok (.return_, 1) := by decide +kernel
theorem dM_isLine_0 : decode bM_isLine 0 = .ok (.aload_n 0, 1) := by decide +kernel
theorem dM_isLine_1 : decode bM_isLine 1 = .ok (.getfield 7, 3) := by decide +kernel
theorem dM_isLine_4 : decode bM_isLine 4 = .ok (.aload_n 0, 1) := by decide +kernel
theorem dM_isLine_5 : decode bM_isLine 5 = .ok (.getfield 20, 3) := by decide +kernel
theorem dM_isLine_8 : decode bM_isLine 8 = .ok (.iload_n 1, 1) := by decide +kernel
theorem dM_isLine_9 : decode bM_isLine 9 = .ok (.iaload, 1) := by decide +kernel
theorem dM_isLine_10 : decode bM_isLine 10 = .ok (.iaload, 1) := by decide +kernel
theorem dM_isLine_11 : decode bM_isLine 11 = .ok (.ifCond .ne 7, 3) := by decide +kernel
theorem dM_isLine_14 : decode bM_isLine 14 = .ok (.iconst 1, 1) := by decide +kernel
theorem dM_isLine_15 : decode bM_isLine 15 = .ok (.goto 4, 3) := by decide +kernel
theorem dM_isLine_18 : decode bM_isLine 18 = .ok (.iconst 0, 1) := by decide +kernel
theorem dM_isLine_19 : decode bM_isLine 19 = .ok (.ireturn, 1) := by decide +kernel
theorem dM_mayBegin_0 : decode bM_mayBegin 0 = .ok (.aload_n 0, 1) := by decide +kernel
theorem dM_mayBegin_1 : decode bM_mayBegin 1 = .ok (.getfield 26, 3) := by decide +kernel
theorem dM_mayBegin_4 : decode bM_mayBegin 4 = .ok (.iload_n 1, 1) := by decide +kernel
theorem dM_mayBegin_5 : decode bM_mayBegin 5 = .ok (.iaload, 1) := by decide +kernel
theorem dM_mayBegin_6 : decode bM_mayBegin 6 = .ok (.aload_n 0, 1) := by decide +kernel
theorem dM_mayBegin_7 : decode bM_mayBegin 7 = .ok (.getfield 7, 3) := by decide +kernel
theorem dM_mayBegin_10 : decode bM_mayBegin 10 = .ok (.bipush 49, 2) := by decide +kernel
theorem dM_mayBegin_12 : decode bM_mayBegin 12 = .ok (.iaload, 1) := by decide +kernel
theorem dM_mayBegin_13 : decode bM_mayBegin 13 = .ok (.if_icmp .gt 24, 3) := by decide +kernel
theorem dM_mayBegin_16 : decode bM_mayBegin 16 = .ok (.iload_n 1, 1) := by decide +kernel
theorem dM_mayBegin_17 : decode bM_mayBegin 17 = .ok (.ifCond .le 22, 3) := by decide +kernel
theorem dM_mayBegin_20 : decode bM_mayBegin 20 = .ok (.aload_n 0, 1) := by decide +kernel
theorem dM_mayBegin_21 : decode bM_mayBegin 21 = .ok (.getfield 7, 3) := by decide +kernel
theorem dM_mayBegin_24 : decode bM_mayBegin 24 = .ok (.aload_n 0, 1) := by decide +kernel
theorem dM_mayBegin_25 : decode bM_mayBegin 25 = .ok (.getfield 20, 3) := by decide +kernel
theorem dM_mayBegin_28 : decode bM_mayBegin 28 = .ok (.iload_n 1, 1) := by decide +kernel
theorem dM_mayBegin_29 : decode bM_mayBegin 29 = .ok (.iconst 1, 1) := by decide +kernel
theorem dM_mayBegin_30 : decode bM_mayBegin 30 = .ok (.isub, 1) := by decide +kernel
theorem dM_mayBegin_31 : decode bM_mayBegin 31 = .ok (.iaload, 1) := by decide +kernel
theorem dM_mayBegin_32 : decode bM_mayBegin 32 = .ok (.iaload, 1) := by decide +kernel
theorem dM_mayBegin_33 : decode bM_mayBegin 33 = .ok (.iconst 1, 1) := by decide +kernel
theorem dM_mayBegin_34 : decode bM_mayBegin 34 = .ok (.if_icmp .ne 5, 3) := by decide +kernel
theorem dM_mayBegin_37 : decode bM_mayBegin 37 = .ok (.iconst 0, 1) := by decide +kernel
theorem dM_mayBegin_38 : decode bM_mayBegin 38 = .ok (.ireturn, 1) := by decide +kernel
theorem dM_mayBegin_39 : decode bM_mayBegin 39 = .ok (.aload_n 0, 1) := by decide +kernel
theorem dM_mayBegin_40 : decode bM_mayBegin 40 = .ok (.iload_n 1, 1) := by decide +kernel
theorem dM_mayBegin_41 : decode bM_mayBegin 41 = .ok (.invokevirtual 68, 3) := by decide +kernel
theorem dM_mayBegin_44 : decode bM_mayBegin 44 = .ok (.ifCond .eq 42, 3) := by decide +kernel
theorem dM_mayBegin_47 : decode bM_mayBegin 47 = .ok (.aload_n 0, 1) := by decide +kernel
theorem dM_mayBegin_48 : decode bM_mayBegin 48 = .ok (.getfield 23, 3) := by decide +kernel
theorem dM_mayBegin_51 : decode bM_mayBegin 51 = .ok (.iload_n 1, 1) := by decide +kernel
theorem dM_mayBegin_52 : decode bM_mayBegin 52 = .ok (.iaload, 1) := by decide +kernel
theorem dM_mayBegin_53 : decode bM_mayBegin 53 = .ok (.ifCond .eq 33, 3) := by decide +kernel
theorem dM_mayBegin_56 : decode bM_mayBegin 56 = .ok (.iload_n 2, 1) := by decide +kernel
theorem dM_mayBegin_57 : decode bM_mayBegin 57 = .ok (.iconst 2, 1) := by decide +kernel
theorem dM_mayBegin_58 : decode bM_mayBegin 58 = .ok (.if_icmp .ne 32, 3) := by decide +kernel
theorem dM_mayBegin_61 : decode bM_mayBegin 61 = .ok (.aload_n 0, 1) := by decide +kernel
theorem dM_mayBegin_62 : decode bM_mayBegin 62 = .ok (.getfield 23, 3) := by decide +kernel
theorem dM_mayBegin_65 : decode bM_mayBegin 65 = .ok (.iload_n 1, 1) := by decide +kernel
theorem dM_mayBegin_66 : decode bM_mayBegin 66 = .ok (.iaload, 1) := by decide +kernel
theorem dM_mayBegin_67 : decode bM_mayBegin 67 = .ok (.aload_n 0, 1) := by decide +kernel
theorem dM_mayBegin_68 : decode bM_mayBegin 68 = .ok (.getfield 7, 3) := by decide +kernel
theorem dM_mayBegin_71 : decode bM_mayBegin 71 = .ok (.bipush 12, 2) := by decide +kernel
theorem dM_mayBegin_73 : decode bM_mayBegin 73 = .ok (.aload_n 0, 1) := by decide +kernel
theorem dM_mayBegin_74 : decode bM_mayBegin 74 = .ok (.getfield 20, 3) := by decide +kernel
theorem dM_mayBegin_77 : decode bM_mayBegin 77 = .ok (.iload_n 1, 1) := by decide +kernel
theorem dM_mayBegin_78 : decode bM_mayBegin 78 = .ok (.iaload, 1) := by decide +kernel
theorem dM_mayBegin_79 : decode bM_mayBegin 79 = .ok (.iadd, 1) := by decide +kernel
theorem dM_mayBegin_80 : decode bM_mayBegin 80 = .ok (.iaload, 1) := by decide +kernel
theorem dM_mayBegin_81 : decode bM_mayBegin 81 = .ok (.iconst 1, 1) := by decide +kernel
theorem dM_mayBegin_82 : decode bM_mayBegin 82 = .ok (.isub, 1) := by decide +kernel
theorem dM_mayBegin_83 : decode bM_mayBegin 83 = .ok (.if_icmp .ge 7, 3) := by decide +kernel
theorem dM_mayBegin_86 : decode bM_mayBegin 86 = .ok (.iconst 1, 1) := by decide +kernel
theorem dM_mayBegin_87 : decode bM_mayBegin 87 = .ok (.goto 4, 3) := by decide +kernel
theorem dM_mayBegin_90 : decode bM_mayBegin 90 = .ok (.iconst 0, 1) := by decide +kernel
theorem dM_mayBegin_91 : decode bM_mayBegin 91 = .ok (.ireturn, 1) := by decide +kernel
theorem dM_linesBy_0 : decode bM_linesBy 0 = .ok (.aload_n 0, 1) := by decide +kernel
theorem dM_linesBy_1 : decode bM_linesBy 1 = .ok (.iload_n 1, 1) := by decide +kernel
theorem dM_linesBy_2 : decode bM_linesBy 2 = .ok (.invokevirtual 68, 3) := by decide +kernel
theorem dM_linesBy_5 : decode bM_linesBy 5 = .ok (.ifCond .ne 7, 3) := by decide +kernel
theorem dM_linesBy_8 : decode bM_linesBy 8 = .ok (.iconst 0, 1) := by decide +kernel
theorem dM_linesBy_9 : decode bM_linesBy 9 = .ok (.goto 21, 3) := by decide +kernel
theorem dM_linesBy_12 : decode bM_linesBy 12 = .ok (.aload_n 0, 1) := by decide +kernel
theorem dM_linesBy_13 : decode bM_linesBy 13 = .ok (.getfield 23, 3) := by decide +kernel
theorem dM_linesBy_16 : decode bM_linesBy 16 = .ok (.iload_n 1, 1) := by decide +kernel
theorem dM_linesBy_17 : decode bM_linesBy 17 = .ok (.iaload, 1) := by decide +kernel
theorem dM_linesBy_18 : decode bM_linesBy 18 = .ok (.ifCond .eq 7, 3) := by decide +kernel
theorem dM_linesBy_21 : decode bM_linesBy 21 = .ok (.iload_n 2, 1) := by decide +kernel
theorem dM_linesBy_22 : decode bM_linesBy 22 = .ok (.ifCond .ne 7, 3) := by decide +kernel
theorem dM_linesBy_25 : decode bM_linesBy 25 = .ok (.iconst 1, 1) := by decide +kernel
theorem dM_linesBy_26 : decode bM_linesBy 26 = .ok (.goto 4, 3) := by decide +kernel
theorem dM_linesBy_29 : decode bM_linesBy 29 = .ok (.iconst 2, 1) := by decide +kernel
theorem dM_linesBy_30 : decode bM_linesBy 30 = .ok (.ireturn, 1) := by decide +kernel
theorem dM_at_0 : decode bM_at 0 = .ok (.sipush 201, 3) := by decide +kernel
theorem dM_at_3 : decode bM_at 3 = .ok (.iload_n 0, 1) := by decide +kernel
theorem dM_at_4 : decode bM_at 4 = .ok (.imul, 1) := by decide +kernel
theorem dM_at_5 : decode bM_at 5 = .ok (.iload_n 1, 1) := by decide +kernel
theorem dM_at_6 : decode bM_at 6 = .ok (.iadd, 1) := by decide +kernel
theorem dM_at_7 : decode bM_at 7 = .ok (.iconst 3, 1) := by decide +kernel
theorem dM_at_8 : decode bM_at 8 = .ok (.imul, 1) := by decide +kernel
theorem dM_at_9 : decode bM_at 9 = .ok (.iload_n 2, 1) := by decide +kernel
theorem dM_at_10 : decode bM_at 10 = .ok (.iadd, 1) := by decide +kernel
theorem dM_at_11 : decode bM_at 11 = .ok (.ireturn, 1) := by decide +kernel
theorem dM_withRoom_0 : decode bM_withRoom 0 = .ok (.iload_n 2, 1) := by decide +kernel
theorem dM_withRoom_1 : decode bM_withRoom 1 = .ok (.iload 4, 2) := by decide +kernel
theorem dM_withRoom_3 : decode bM_withRoom 3 = .ok (.iadd, 1) := by decide +kernel
theorem dM_withRoom_4 : decode bM_withRoom 4 = .ok (.istore 5, 2) := by decide +kernel
theorem dM_withRoom_6 : decode bM_withRoom 6 = .ok (.iload 5, 2) := by decide +kernel
theorem dM_withRoom_8 : decode bM_withRoom 8 = .ok (.aload_n 0, 1) := by decide +kernel
theorem dM_withRoom_9 : decode bM_withRoom 9 = .ok (.getfield 26, 3) := by decide +kernel
theorem dM_withRoom_12 : decode bM_withRoom 12 = .ok (.iload_n 1, 1) := by decide +kernel
theorem dM_withRoom_13 : decode bM_withRoom 13 = .ok (.iaload, 1) := by decide +kernel
theorem dM_withRoom_14 : decode bM_withRoom 14 = .ok (.iadd, 1) := by decide +kernel
theorem dM_withRoom_15 : decode bM_withRoom 15 = .ok (.aload_n 0, 1) := by decide +kernel
theorem dM_withRoom_16 : decode bM_withRoom 16 = .ok (.getfield 7, 3) := by decide +kernel
theorem dM_withRoom_19 : decode bM_withRoom 19 = .ok (.bipush 49, 2) := by decide +kernel
theorem dM_withRoom_21 : decode bM_withRoom 21 = .ok (.iaload, 1) := by decide +kernel
theorem dM_withRoom_22 : decode bM_withRoom 22 = .ok (.if_icmp .le 6, 3) := by decide +kernel
theorem dM_withRoom_25 : decode bM_withRoom 25 = .ok (.bipush (-6), 2) := by decide +kernel
theorem dM_withRoom_27 : decode bM_withRoom 27 = .ok (.ireturn, 1) := by decide +kernel
theorem dM_withRoom_28 : decode bM_withRoom 28 = .ok (.aload_n 0, 1) := by decide +kernel
theorem dM_withRoom_29 : decode bM_withRoom 29 = .ok (.getfield 30, 3) := by decide +kernel
theorem dM_withRoom_32 : decode bM_withRoom 32 = .ok (.iload_n 1, 1) := by decide +kernel
theorem dM_withRoom_33 : decode bM_withRoom 33 = .ok (.iconst 1, 1) := by decide +kernel
theorem dM_withRoom_34 : decode bM_withRoom 34 = .ok (.iadd, 1) := by decide +kernel
theorem dM_withRoom_35 : decode bM_withRoom 35 = .ok (.iload 5, 2) := by decide +kernel
theorem dM_withRoom_37 : decode bM_withRoom 37 = .ok (.aload_n 0, 1) := by decide +kernel
theorem dM_withRoom_38 : decode bM_withRoom 38 = .ok (.getfield 26, 3) := by decide +kernel
theorem dM_withRoom_41 : decode bM_withRoom 41 = .ok (.iload_n 1, 1) := by decide +kernel
theorem dM_withRoom_42 : decode bM_withRoom 42 = .ok (.iaload, 1) := by decide +kernel
theorem dM_withRoom_43 : decode bM_withRoom 43 = .ok (.iadd, 1) := by decide +kernel
theorem dM_withRoom_44 : decode bM_withRoom 44 = .ok (.aload_n 0, 1) := by decide +kernel
theorem dM_withRoom_45 : decode bM_withRoom 45 = .ok (.iload_n 1, 1) := by decide +kernel
theorem dM_withRoom_46 : decode bM_withRoom 46 = .ok (.iload_n 3, 1) := by decide +kernel
theorem dM_withRoom_47 : decode bM_withRoom 47 = .ok (.invokevirtual 71, 3) := by decide +kernel
theorem dM_withRoom_50 : decode bM_withRoom 50 = .ok (.invokestatic 75, 3) := by decide +kernel
theorem dM_withRoom_53 : decode bM_withRoom 53 = .ok (.iaload, 1) := by decide +kernel
theorem dM_withRoom_54 : decode bM_withRoom 54 = .ok (.istore 6, 2) := by decide +kernel
theorem dM_withRoom_56 : decode bM_withRoom 56 = .ok (.iload 6, 2) := by decide +kernel
theorem dM_withRoom_58 : decode bM_withRoom 58 = .ok (.ifCond .ge 8, 3) := by decide +kernel
theorem dM_withRoom_61 : decode bM_withRoom 61 = .ok (.bipush (-6), 2) := by decide +kernel
theorem dM_withRoom_63 : decode bM_withRoom 63 = .ok (.goto 37, 3) := by decide +kernel
theorem dM_withRoom_66 : decode bM_withRoom 66 = .ok (.iload 6, 2) := by decide +kernel
theorem dM_withRoom_68 : decode bM_withRoom 68 = .ok (.iload 4, 2) := by decide +kernel
theorem dM_withRoom_70 : decode bM_withRoom 70 = .ok (.iadd, 1) := by decide +kernel
theorem dM_withRoom_71 : decode bM_withRoom 71 = .ok (.aload_n 0, 1) := by decide +kernel
theorem dM_withRoom_72 : decode bM_withRoom 72 = .ok (.iload_n 1, 1) := by decide +kernel
theorem dM_withRoom_73 : decode bM_withRoom 73 = .ok (.invokevirtual 68, 3) := by decide +kernel
theorem dM_withRoom_76 : decode bM_withRoom 76 = .ok (.ifCond .eq 22, 3) := by decide +kernel
theorem dM_withRoom_79 : decode bM_withRoom 79 = .ok (.iload 5, 2) := by decide +kernel
theorem dM_withRoom_81 : decode bM_withRoom 81 = .ok (.aload_n 0, 1) := by decide +kernel
theorem dM_withRoom_82 : decode bM_withRoom 82 = .ok (.getfield 7, 3) := by decide +kernel
theorem dM_withRoom_85 : decode bM_withRoom 85 = .ok (.bipush 48, 2) := by decide +kernel
theorem dM_withRoom_87 : decode bM_withRoom 87 = .ok (.iaload, 1) := by decide +kernel
theorem dM_withRoom_88 : decode bM_withRoom 88 = .ok (.irem, 1) := by decide +kernel
theorem dM_withRoom_89 : decode bM_withRoom 89 = .ok (.ifCond .eq 9, 3) := by decide +kernel
theorem dM_withRoom_92 : decode bM_withRoom 92 = .ok (.sipush 1000, 3) := by decide +kernel
theorem dM_withRoom_95 : decode bM_withRoom 95 = .ok (.goto 4, 3) := by decide +kernel
theorem dM_withRoom_98 : decode bM_withRoom 98 = .ok (.iconst 0, 1) := by decide +kernel
theorem dM_withRoom_99 : decode bM_withRoom 99 = .ok (.iadd, 1) := by decide +kernel
theorem dM_withRoom_100 : decode bM_withRoom 100 = .ok (.ireturn, 1) := by decide +kernel
theorem dM_asFirst_0 : decode bM_asFirst 0 = .ok (.aload_n 0, 1) := by decide +kernel
theorem dM_asFirst_1 : decode bM_asFirst 1 = .ok (.iload_n 1, 1) := by decide +kernel
theorem dM_asFirst_2 : decode bM_asFirst 2 = .ok (.iload_n 2, 1) := by decide +kernel
theorem dM_asFirst_3 : decode bM_asFirst 3 = .ok (.invokevirtual 79, 3) := by decide +kernel
theorem dM_asFirst_6 : decode bM_asFirst 6 = .ok (.ifCond .ne 6, 3) := by decide +kernel
theorem dM_asFirst_9 : decode bM_asFirst 9 = .ok (.bipush (-6), 2) := by decide +kernel
theorem dM_asFirst_11 : decode bM_asFirst 11 = .ok (.ireturn, 1) := by decide +kernel
theorem dM_asFirst_12 : decode bM_asFirst 12 = .ok (.aload_n 0, 1) := by decide +kernel
theorem dM_asFirst_13 : decode bM_asFirst 13 = .ok (.getfield 30, 3) := by decide +kernel
theorem dM_asFirst_16 : decode bM_asFirst 16 = .ok (.iload_n 1, 1) := by decide +kernel
theorem dM_asFirst_17 : decode bM_asFirst 17 = .ok (.iconst 1, 1) := by decide +kernel
theorem dM_asFirst_18 : decode bM_asFirst 18 = .ok (.iadd, 1) := by decide +kernel
theorem dM_asFirst_19 : decode bM_asFirst 19 = .ok (.aload_n 0, 1) := by decide +kernel
theorem dM_asFirst_20 : decode bM_asFirst 20 = .ok (.getfield 26, 3) := by decide +kernel
theorem dM_asFirst_23 : decode bM_asFirst 23 = .ok (.iload_n 1, 1) := by decide +kernel
theorem dM_asFirst_24 : decode bM_asFirst 24 = .ok (.iaload, 1) := by decide +kernel
theorem dM_asFirst_25 : decode bM_asFirst 25 = .ok (.aload_n 0, 1) := by decide +kernel
theorem dM_asFirst_26 : decode bM_asFirst 26 = .ok (.iload_n 1, 1) := by decide +kernel
theorem dM_asFirst_27 : decode bM_asFirst 27 = .ok (.invokevirtual 68, 3) := by decide +kernel
theorem dM_asFirst_30 : decode bM_asFirst 30 = .ok (.ifCond .eq 7, 3) := by decide +kernel
theorem dM_asFirst_33 : decode bM_asFirst 33 = .ok (.iconst 1, 1) := by decide +kernel
theorem dM_asFirst_34 : decode bM_asFirst 34 = .ok (.goto 4, 3) := by decide +kernel
theorem dM_asFirst_37 : decode bM_asFirst 37 = .ok (.iconst 0, 1) := by decide +kernel
theorem dM_asFirst_38 : decode bM_asFirst 38 = .ok (.invokestatic 75, 3) := by decide +kernel
theorem dM_asFirst_41 : decode bM_asFirst 41 = .ok (.iaload, 1) := by decide +kernel
theorem dM_asFirst_42 : decode bM_asFirst 42 = .ok (.istore_n 3, 1) := by decide +kernel
theorem dM_asFirst_43 : decode bM_asFirst 43 = .ok (.iload_n 3, 1) := by decide +kernel
theorem dM_asFirst_44 : decode bM_asFirst 44 = .ok (.ifCond .ge 8, 3) := by decide +kernel
theorem dM_asFirst_47 : decode bM_asFirst 47 = .ok (.bipush (-6), 2) := by decide +kernel
theorem dM_asFirst_49 : decode bM_asFirst 49 = .ok (.goto 7, 3) := by decide +kernel
theorem dM_asFirst_52 : decode bM_asFirst 52 = .ok (.iload_n 3, 1) := by decide +kernel
theorem dM_asFirst_53 : decode bM_asFirst 53 = .ok (.ldc 82, 2) := by decide +kernel
theorem dM_asFirst_55 : decode bM_asFirst 55 = .ok (.iadd, 1) := by decide +kernel
theorem dM_asFirst_56 : decode bM_asFirst 56 = .ok (.ireturn, 1) := by decide +kernel
theorem dM_better_0 : decode bM_better 0 = .ok (.iload_n 0, 1) := by decide +kernel
theorem dM_better_1 : decode bM_better 1 = .ok (.ifCond .lt 12, 3) := by decide +kernel
theorem dM_better_4 : decode bM_better 4 = .ok (.iload_n 1, 1) := by decide +kernel
theorem dM_better_5 : decode bM_better 5 = .ok (.ifCond .lt 12, 3) := by decide +kernel
theorem dM_better_8 : decode bM_better 8 = .ok (.iload_n 1, 1) := by decide +kernel
theorem dM_better_9 : decode bM_better 9 = .ok (.iload_n 0, 1) := by decide +kernel
theorem dM_better_10 : decode bM_better 10 = .ok (.if_icmp .ge 7, 3) := by decide +kernel
theorem dM_better_13 : decode bM_better 13 = .ok (.iload_n 1, 1) := by decide +kernel
theorem dM_better_14 : decode bM_better 14 = .ok (.goto 4, 3) := by decide +kernel
theorem dM_better_17 : decode bM_better 17 = .ok (.iload_n 0, 1) := by decide +kernel
theorem dM_better_18 : decode bM_better 18 = .ok (.ireturn, 1) := by decide +kernel
theorem dM_solve_0 : decode bM_solve 0 = .ok (.aload_n 0, 1) := by decide +kernel
theorem dM_solve_1 : decode bM_solve 1 = .ok (.invokevirtual 83, 3) := by decide +kernel
theorem dM_solve_4 : decode bM_solve 4 = .ok (.iconst 0, 1) := by decide +kernel
theorem dM_solve_5 : decode bM_solve 5 = .ok (.istore_n 1, 1) := by decide +kernel
theorem dM_solve_6 : decode bM_solve 6 = .ok (.iload_n 1, 1) := by decide +kernel
theorem dM_solve_7 : decode bM_solve 7 = .ok (.sipush 603, 3) := by decide +kernel
theorem dM_solve_10 : decode bM_solve 10 = .ok (.if_icmp .ge 26, 3) := by decide +kernel
theorem dM_solve_13 : decode bM_solve 13 = .ok (.aload_n 0, 1) := by decide +kernel
theorem dM_solve_14 : decode bM_solve 14 = .ok (.getfield 30, 3) := by decide +kernel
theorem dM_solve_17 : decode bM_solve 17 = .ok (.aload_n 0, 1) := by decide +kernel
theorem dM_solve_18 : decode bM_solve 18 = .ok (.getfield 64, 3) := by decide +kernel
theorem dM_solve_21 : decode bM_solve 21 = .ok (.iconst 0, 1) := by decide +kernel
theorem dM_solve_22 : decode bM_solve 22 = .ok (.iconst 0, 1) := by decide +kernel
theorem dM_solve_23 : decode bM_solve 23 = .ok (.invokestatic 75, 3) := by decide +kernel
theorem dM_solve_26 : decode bM_solve 26 = .ok (.iload_n 1, 1) := by decide +kernel
theorem dM_solve_27 : decode bM_solve 27 = .ok (.iadd, 1) := by decide +kernel
theorem dM_solve_28 : decode bM_solve 28 = .ok (.iconst 0, 1) := by decide +kernel
theorem dM_solve_29 : decode bM_solve 29 = .ok (.iastore, 1) := by decide +kernel
theorem dM_solve_30 : decode bM_solve 30 = .ok (.iinc 1 1, 3) := by decide +kernel
theorem dM_solve_33 : decode bM_solve 33 = .ok (.goto (-27), 3) := by decide +kernel
theorem dM_solve_36 : decode bM_solve 36 = .ok (.aload_n 0, 1) := by decide +kernel
theorem dM_solve_37 : decode bM_solve 37 = .ok (.getfield 64, 3) := by decide +kernel
theorem dM_solve_40 : decode bM_solve 40 = .ok (.iconst 1, 1) := by decide +kernel
theorem dM_solve_41 : decode bM_solve 41 = .ok (.isub, 1) := by decide +kernel
theorem dM_solve_42 : decode bM_solve 42 = .ok (.istore_n 1, 1) := by decide +kernel
theorem dM_solve_43 : decode bM_solve 43 = .ok (.iload_n 1, 1) := by decide +kernel
theorem dM_solve_44 : decode bM_solve 44 = .ok (.ifCond .le 125, 3) := by decide +kernel
theorem dM_solve_47 : decode bM_solve 47 = .ok (.iconst 0, 1) := by decide +kernel
theorem dM_solve_48 : decode bM_solve 48 = .ok (.istore_n 2, 1) := by decide +kernel
theorem dM_solve_49 : decode bM_solve 49 = .ok (.iload_n 2, 1) := by decide +kernel
theorem dM_solve_50 : decode bM_solve 50 = .ok (.iconst 3, 1) := by decide +kernel
theorem dM_solve_51 : decode bM_solve 51 = .ok (.if_icmp .ge 112, 3) := by decide +kernel
theorem dM_solve_54 : decode bM_solve 54 = .ok (.aload_n 0, 1) := by decide +kernel
theorem dM_solve_55 : decode bM_solve 55 = .ok (.iload_n 1, 1) := by decide +kernel
theorem dM_solve_56 : decode bM_solve 56 = .ok (.iload_n 2, 1) := by decide +kernel
theorem dM_solve_57 : decode bM_solve 57 = .ok (.invokevirtual 86, 3) := by decide +kernel
theorem dM_solve_60 : decode bM_solve 60 = .ok (.istore_n 3, 1) := by decide +kernel
theorem dM_solve_61 : decode bM_solve 61 = .ok (.iconst 0, 1) := by decide +kernel
theorem dM_solve_62 : decode bM_solve 62 = .ok (.istore 4, 2) := by decide +kernel
theorem dM_solve_64 : decode bM_solve 64 = .ok (.iload 4, 2) := by decide +kernel
theorem dM_solve_66 : decode bM_solve 66 = .ok (.aload_n 0, 1) := by decide +kernel
theorem dM_solve_67 : decode bM_solve 67 = .ok (.getfield 7, 3) := by decide +kernel
theorem dM_solve_70 : decode bM_solve 70 = .ok (.bipush 49, 2) := by decide +kernel
theorem dM_solve_72 : decode bM_solve 72 = .ok (.iaload, 1) := by decide +kernel
theorem dM_solve_73 : decode bM_solve 73 = .ok (.if_icmp .gt 84, 3) := by decide +kernel
theorem dM_solve_76 : decode bM_solve 76 = .ok (.iload_n 3, 1) := by decide +kernel
theorem dM_solve_77 : decode bM_solve 77 = .ok (.istore 5, 2) := by decide +kernel
theorem dM_solve_79 : decode bM_solve 79 = .ok (.aload_n 0, 1) := by decide +kernel
theorem dM_solve_80 : decode bM_solve 80 = .ok (.getfield 7, 3) := by decide +kernel
theorem dM_solve_83 : decode bM_solve 83 = .ok (.bipush 24, 2) := by decide +kernel
theorem dM_solve_85 : decode bM_solve 85 = .ok (.aload_n 0, 1) := by decide +kernel
theorem dM_solve_86 : decode bM_solve 86 = .ok (.getfield 20, 3) := by decide +kernel
theorem dM_solve_89 : decode bM_solve 89 = .ok (.iload_n 1, 1) := by decide +kernel
theorem dM_solve_90 : decode bM_solve 90 = .ok (.iaload, 1) := by decide +kernel
theorem dM_solve_91 : decode bM_solve 91 = .ok (.iadd, 1) := by decide +kernel
theorem dM_solve_92 : decode bM_solve 92 = .ok (.iaload, 1) := by decide +kernel
theorem dM_solve_93 : decode bM_solve 93 = .ok (.istore 6, 2) := by decide +kernel
theorem dM_solve_95 : decode bM_solve 95 = .ok (.iload 6, 2) := by decide +kernel
theorem dM_solve_97 : decode bM_solve 97 = .ok (.aload_n 0, 1) := by decide +kernel
theorem dM_solve_98 : decode bM_solve 98 = .ok (.getfield 7, 3) := by decide +kernel
theorem dM_solve_101 : decode bM_solve 101 = .ok (.bipush 36, 2) := by decide +kernel
theorem dM_solve_103 : decode bM_solve 103 = .ok (.aload_n 0, 1) := by decide +kernel
theorem dM_solve_104 : decode bM_solve 104 = .ok (.getfield 20, 3) := by decide +kernel
theorem dM_solve_107 : decode bM_solve 107 = .ok (.iload_n 1, 1) := by decide +kernel
theorem dM_solve_108 : decode bM_solve 108 = .ok (.iaload, 1) := by decide +kernel
theorem dM_solve_109 : decode bM_solve 109 = .ok (.iadd, 1) := by decide +kernel
theorem dM_solve_110 : decode bM_solve 110 = .ok (.iaload, 1) := by decide +kernel
theorem dM_solve_111 : decode bM_solve 111 = .ok (.if_icmp .gt 26, 3) := by decide +kernel
theorem dM_solve_114 : decode bM_solve 114 = .ok (.iload 5, 2) := by decide +kernel
theorem dM_solve_116 : decode bM_solve 116 = .ok (.aload_n 0, 1) := by decide +kernel
theorem dM_solve_117 : decode bM_solve 117 = .ok (.iload_n 1, 1) := by decide +kernel
theorem dM_solve_118 : decode bM_solve 118 = .ok (.iload 4, 2) := by decide +kernel
theorem dM_solve_120 : decode bM_solve 120 = .ok (.iload_n 2, 1) := by decide +kernel
theorem dM_solve_121 : decode bM_solve 121 = .ok (.iload 6, 2) := by decide +kernel
theorem dM_solve_123 : decode bM_solve 123 = .ok (.invokevirtual 89, 3) := by decide +kernel
theorem dM_solve_126 : decode bM_solve 126 = .ok (.invokestatic 93, 3) := by decide +kernel
theorem dM_solve_129 : decode bM_solve 129 = .ok (.istore 5, 2) := by decide +kernel
theorem dM_solve_131 : decode bM_solve 131 = .ok (.iinc 6 1, 3) := by decide +kernel
theorem dM_solve_134 : decode bM_solve 134 = .ok (.goto (-39), 3) := by decide +kernel
theorem dM_solve_137 : decode bM_solve 137 = .ok (.aload_n 0, 1) := by decide +kernel
theorem dM_solve_138 : decode bM_solve 138 = .ok (.getfield 30, 3) := by decide +kernel
theorem dM_solve_141 : decode bM_solve 141 = .ok (.iload_n 1, 1) := by decide +kernel
theorem dM_solve_142 : decode bM_solve 142 = .ok (.iload 4, 2) := by decide +kernel
theorem dM_solve_144 : decode bM_solve 144 = .ok (.iload_n 2, 1) := by decide +kernel
theorem dM_solve_145 : decode bM_solve 145 = .ok (.invokestatic 75, 3) := by decide +kernel
theorem dM_solve_148 : decode bM_solve 148 = .ok (.iload 5, 2) := by decide +kernel
theorem dM_solve_150 : decode bM_solve 150 = .ok (.iastore, 1) := by decide +kernel
theorem dM_solve_151 : decode bM_solve 151 = .ok (.iinc 4 1, 3) := by decide +kernel
theorem dM_solve_154 : decode bM_solve 154 = .ok (.goto (-90), 3) := by decide +kernel
theorem dM_solve_157 : decode bM_solve 157 = .ok (.iinc 2 1, 3) := by decide +kernel
theorem dM_solve_160 : decode bM_solve 160 = .ok (.goto (-111), 3) := by decide +kernel
theorem dM_solve_163 : decode bM_solve 163 = .ok (.iinc 1 (-1), 3) := by decide +kernel
theorem dM_solve_166 : decode bM_solve 166 = .ok (.goto (-123), 3) := by decide +kernel
theorem dM_solve_169 : decode bM_solve 169 = .ok (.aload_n 0, 1) := by decide +kernel
theorem dM_solve_170 : decode bM_solve 170 = .ok (.getfield 64, 3) := by decide +kernel
theorem dM_solve_173 : decode bM_solve 173 = .ok (.ifCond .ne 7, 3) := by decide +kernel
theorem dM_solve_176 : decode bM_solve 176 = .ok (.iconst 0, 1) := by decide +kernel
theorem dM_solve_177 : decode bM_solve 177 = .ok (.goto 9, 3) := by decide +kernel
theorem dM_solve_180 : decode bM_solve 180 = .ok (.aload_n 0, 1) := by decide +kernel
theorem dM_solve_181 : decode bM_solve 181 = .ok (.iconst 0, 1) := by decide +kernel
theorem dM_solve_182 : decode bM_solve 182 = .ok (.iconst 2, 1) := by decide +kernel
theorem dM_solve_183 : decode bM_solve 183 = .ok (.invokevirtual 86, 3) := by decide +kernel
theorem dM_solve_186 : decode bM_solve 186 = .ok (.ireturn, 1) := by decide +kernel
theorem dM_stand_0 : decode bM_stand 0 = .ok (.aload_n 0, 1) := by decide +kernel
theorem dM_stand_1 : decode bM_stand 1 = .ok (.getfield 33, 3) := by decide +kernel
theorem dM_stand_4 : decode bM_stand 4 = .ok (.iload_n 1, 1) := by decide +kernel
theorem dM_stand_5 : decode bM_stand 5 = .ok (.iload_n 2, 1) := by decide +kernel
theorem dM_stand_6 : decode bM_stand 6 = .ok (.iastore, 1) := by decide +kernel
theorem dM_stand_7 : decode bM_stand 7 = .ok (.aload_n 0, 1) := by decide +kernel
theorem dM_stand_8 : decode bM_stand 8 = .ok (.getfield 36, 3) := by decide +kernel
theorem dM_stand_11 : decode bM_stand 11 = .ok (.iload_n 1, 1) := by decide +kernel
theorem dM_stand_12 : decode bM_stand 12 = .ok (.iload_n 3, 1) := by decide +kernel
theorem dM_stand_13 : decode bM_stand 13 = .ok (.iastore, 1) := by decide +kernel
theorem dM_stand_14 : decode bM_stand 14 = .ok (.aload_n 0, 1) := by decide +kernel
theorem dM_stand_15 : decode bM_stand 15 = .ok (.getfield 39, 3) := by decide +kernel
theorem dM_stand_18 : decode bM_stand 18 = .ok (.iload_n 1, 1) := by decide +kernel
theorem dM_stand_19 : decode bM_stand 19 = .ok (.iload 4, 2) := by decide +kernel
theorem dM_stand_21 : decode bM_stand 21 = .ok (.iastore, 1) := by decide +kernel
theorem dM_stand_22 : decode bM_stand 22 = .ok (.aload_n 0, 1) := by decide +kernel
theorem dM_stand_23 : decode bM_stand 23 = .ok (.getfield 42, 3) := by decide +kernel
theorem dM_stand_26 : decode bM_stand 26 = .ok (.iload_n 1, 1) := by decide +kernel
theorem dM_stand_27 : decode bM_stand 27 = .ok (.iload 5, 2) := by decide +kernel
theorem dM_stand_29 : decode bM_stand 29 = .ok (.bastore, 1) := by decide +kernel
theorem dM_stand_30 : decode bM_stand 30 = .ok (.return_, 1) := by decide +kernel
theorem dM_layBest_0 : decode bM_layBest 0 = .ok (.aload_n 0, 1) := by decide +kernel
theorem dM_layBest_1 : decode bM_layBest 1 = .ok (.invokevirtual 96, 3) := by decide +kernel
theorem dM_layBest_4 : decode bM_layBest 4 = .ok (.ifCond .ge 5, 3) := by decide +kernel
theorem dM_layBest_7 : decode bM_layBest 7 = .ok (.iconst 0, 1) := by decide +kernel
theorem dM_layBest_8 : decode bM_layBest 8 = .ok (.ireturn, 1) := by decide +kernel
theorem dM_layBest_9 : decode bM_layBest 9 = .ok (.iconst 0, 1) := by decide +kernel
theorem dM_layBest_10 : decode bM_layBest 10 = .ok (.istore_n 1, 1) := by decide +kernel
theorem dM_layBest_11 : decode bM_layBest 11 = .ok (.iconst 2, 1) := by decide +kernel
theorem dM_layBest_12 : decode bM_layBest 12 = .ok (.istore_n 2, 1) := by decide +kernel
theorem dM_layBest_13 : decode bM_layBest 13 = .ok (.iconst 0, 1) := by decide +kernel
theorem dM_layBest_14 : decode bM_layBest 14 = .ok (.istore_n 3, 1) := by decide +kernel
theorem dM_layBest_15 : decode bM_layBest 15 = .ok (.iload_n 3, 1) := by decide +kernel
theorem dM_layBest_16 : decode bM_layBest 16 = .ok (.aload_n 0, 1) := by decide +kernel
theorem dM_layBest_17 : decode bM_layBest 17 = .ok (.getfield 64, 3) := by decide +kernel
theorem dM_layBest_20 : decode bM_layBest 20 = .ok (.if_icmp .ge 214, 3) := by decide +kernel
theorem dM_layBest_23 : decode bM_layBest 23 = .ok (.iload_n 3, 1) := by decide +kernel
theorem dM_layBest_24 : decode bM_layBest 24 = .ok (.ifCond .ne 8, 3) := by decide +kernel
theorem dM_layBest_27 : decode bM_layBest 27 = .ok (.bipush (-6), 2) := by decide +kernel
theorem dM_layBest_29 : decode bM_layBest 29 = .ok (.goto 14, 3) := by decide +kernel
theorem dM_layBest_32 : decode bM_layBest 32 = .ok (.aload_n 0, 1) := by decide +kernel
theorem dM_layBest_33 : decode bM_layBest 33 = .ok (.getfield 30, 3) := by decide +kernel
theorem dM_layBest_36 : decode bM_layBest 36 = .ok (.iload_n 3, 1) := by decide +kernel
theorem dM_layBest_37 : decode bM_layBest 37 = .ok (.iload_n 1, 1) := by decide +kernel
theorem dM_layBest_38 : decode bM_layBest 38 = .ok (.iload_n 2, 1) := by decide +kernel
theorem dM_layBest_39 : decode bM_layBest 39 = .ok (.invokestatic 75, 3) := by decide +kernel
theorem dM_layBest_42 : decode bM_layBest 42 = .ok (.iaload, 1) := by decide +kernel
theorem dM_layBest_43 : decode bM_layBest 43 = .ok (.istore 4, 2) := by decide +kernel
theorem dM_layBest_45 : decode bM_layBest 45 = .ok (.iload_n 3, 1) := by decide +kernel
theorem dM_layBest_46 : decode bM_layBest 46 = .ok (.ifCond .ne 8, 3) := by decide +kernel
theorem dM_layBest_49 : decode bM_layBest 49 = .ok (.bipush 31, 2) := by decide +kernel
theorem dM_layBest_51 : decode bM_layBest 51 = .ok (.goto 17, 3) := by decide +kernel
theorem dM_layBest_54 : decode bM_layBest 54 = .ok (.aload_n 0, 1) := by decide +kernel
theorem dM_layBest_55 : decode bM_layBest 55 = .ok (.getfield 7, 3) := by decide +kernel
theorem dM_layBest_58 : decode bM_layBest 58 = .ok (.bipush 24, 2) := by decide +kernel
theorem dM_layBest_60 : decode bM_layBest 60 = .ok (.aload_n 0, 1) := by decide +kernel
theorem dM_layBest_61 : decode bM_layBest 61 = .ok (.getfield 20, 3) := by decide +kernel
theorem dM_layBest_64 : decode bM_layBest 64 = .ok (.iload_n 3, 1) := by decide +kernel
theorem dM_layBest_65 : decode bM_layBest 65 = .ok (.iaload, 1) := by decide +kernel
theorem dM_layBest_66 : decode bM_layBest 66 = .ok (.iadd, 1) := by decide +kernel
theorem dM_layBest_67 : decode bM_layBest 67 = .ok (.iaload, 1) := by decide +kernel
theorem dM_layBest_68 : decode bM_layBest 68 = .ok (.istore 5, 2) := by decide +kernel
theorem dM_layBest_70 : decode bM_layBest 70 = .ok (.iload 5, 2) := by decide +kernel
theorem dM_layBest_72 : decode bM_layBest 72 = .ok (.aload_n 0, 1) := by decide +kernel
theorem dM_layBest_73 : decode bM_layBest 73 = .ok (.getfield 7, 3) := by decide +kernel
theorem dM_layBest_76 : decode bM_layBest 76 = .ok (.bipush 36, 2) := by decide +kernel
theorem dM_layBest_78 : decode bM_layBest 78 = .ok (.aload_n 0, 1) := by decide +kernel
theorem dM_layBest_79 : decode bM_layBest 79 = .ok (.getfield 20, 3) := by decide +kernel
theorem dM_layBest_82 : decode bM_layBest 82 = .ok (.iload_n 3, 1) := by decide +kernel
theorem dM_layBest_83 : decode bM_layBest 83 = .ok (.iaload, 1) := by decide +kernel
theorem dM_layBest_84 : decode bM_layBest 84 = .ok (.iadd, 1) := by decide +kernel
theorem dM_layBest_85 : decode bM_layBest 85 = .ok (.iaload, 1) := by decide +kernel
theorem dM_layBest_86 : decode bM_layBest 86 = .ok (.if_icmp .gt 23, 3) := by decide +kernel
theorem dM_layBest_89 : decode bM_layBest 89 = .ok (.aload_n 0, 1) := by decide +kernel
theorem dM_layBest_90 : decode bM_layBest 90 = .ok (.iload_n 3, 1) := by decide +kernel
theorem dM_layBest_91 : decode bM_layBest 91 = .ok (.iload_n 1, 1) := by decide +kernel
theorem dM_layBest_92 : decode bM_layBest 92 = .ok (.iload_n 2, 1) := by decide +kernel
theorem dM_layBest_93 : decode bM_layBest 93 = .ok (.iload 5, 2) := by decide +kernel
theorem dM_layBest_95 : decode bM_layBest 95 = .ok (.invokevirtual 89, 3) := by decide +kernel
theorem dM_layBest_98 : decode bM_layBest 98 = .ok (.iload 4, 2) := by decide +kernel
theorem dM_layBest_100 : decode bM_layBest 100 = .ok (.if_icmp .eq 9, 3) := by decide +kernel
theorem dM_layBest_103 : decode bM_layBest 103 = .ok (.iinc 5 1, 3) := by decide +kernel
theorem dM_layBest_106 : decode bM_layBest 106 = .ok (.goto (-36), 3) := by decide +kernel
theorem dM_layBest_109 : decode bM_layBest 109 = .ok (.iload_n 3, 1) := by decide +kernel
theorem dM_layBest_110 : decode bM_layBest 110 = .ok (.ifCond .eq 22, 3) := by decide +kernel
theorem dM_layBest_113 : decode bM_layBest 113 = .ok (.iload 5, 2) := by decide +kernel
theorem dM_layBest_115 : decode bM_layBest 115 = .ok (.aload_n 0, 1) := by decide +kernel
theorem dM_layBest_116 : decode bM_layBest 116 = .ok (.getfield 7, 3) := by decide +kernel
theorem dM_layBest_119 : decode bM_layBest 119 = .ok (.bipush 36, 2) := by decide +kernel
theorem dM_layBest_121 : decode bM_layBest 121 = .ok (.aload_n 0, 1) := by decide +kernel
theorem dM_layBest_122 : decode bM_layBest 122 = .ok (.getfield 20, 3) := by decide +kernel
theorem dM_layBest_125 : decode bM_layBest 125 = .ok (.iload_n 3, 1) := by decide +kernel
theorem dM_layBest_126 : decode bM_layBest 126 = .ok (.iaload, 1) := by decide +kernel
theorem dM_layBest_127 : decode bM_layBest 127 = .ok (.iadd, 1) := by decide +kernel
theorem dM_layBest_128 : decode bM_layBest 128 = .ok (.iaload, 1) := by decide +kernel
theorem dM_layBest_129 : decode bM_layBest 129 = .ok (.if_icmp .le 7, 3) := by decide +kernel
theorem dM_layBest_132 : decode bM_layBest 132 = .ok (.iconst 1, 1) := by decide +kernel
theorem dM_layBest_133 : decode bM_layBest 133 = .ok (.goto 4, 3) := by decide +kernel
theorem dM_layBest_136 : decode bM_layBest 136 = .ok (.iconst 0, 1) := by decide +kernel
theorem dM_layBest_137 : decode bM_layBest 137 = .ok (.istore 6, 2) := by decide +kernel
theorem dM_layBest_139 : decode bM_layBest 139 = .ok (.iload 6, 2) := by decide +kernel
theorem dM_layBest_141 : decode bM_layBest 141 = .ok (.ifCond .eq 46, 3) := by decide +kernel
theorem dM_layBest_144 : decode bM_layBest 144 = .ok (.aload_n 0, 1) := by decide +kernel
theorem dM_layBest_145 : decode bM_layBest 145 = .ok (.iload_n 3, 1) := by decide +kernel
theorem dM_layBest_146 : decode bM_layBest 146 = .ok (.iload_n 3, 1) := by decide +kernel
theorem dM_layBest_147 : decode bM_layBest 147 = .ok (.ifCond .ne 7, 3) := by decide +kernel
theorem dM_layBest_150 : decode bM_layBest 150 = .ok (.iconst 0, 1) := by decide +kernel
theorem dM_layBest_151 : decode bM_layBest 151 = .ok (.goto 13, 3) := by decide +kernel
theorem dM_layBest_154 : decode bM_layBest 154 = .ok (.aload_n 0, 1) := by decide +kernel
theorem dM_layBest_155 : decode bM_layBest 155 = .ok (.getfield 33, 3) := by decide +kernel
theorem dM_layBest_158 : decode bM_layBest 158 = .ok (.iload_n 3, 1) := by decide +kernel
theorem dM_layBest_159 : decode bM_layBest 159 = .ok (.iconst 1, 1) := by decide +kernel
theorem dM_layBest_160 : decode bM_layBest 160 = .ok (.isub, 1) := by decide +kernel
theorem dM_layBest_161 : decode bM_layBest 161 = .ok (.iaload, 1) := by decide +kernel
theorem dM_layBest_162 : decode bM_layBest 162 = .ok (.iconst 1, 1) := by decide +kernel
theorem dM_layBest_163 : decode bM_layBest 163 = .ok (.iadd, 1) := by decide +kernel
theorem dM_layBest_164 : decode bM_layBest 164 = .ok (.iconst 0, 1) := by decide +kernel
theorem dM_layBest_165 : decode bM_layBest 165 = .ok (.iconst 0, 1) := by decide +kernel
theorem dM_layBest_166 : decode bM_layBest 166 = .ok (.iconst 1, 1) := by decide +kernel
theorem dM_layBest_167 : decode bM_layBest 167 = .ok (.invokevirtual 100, 3) := by decide +kernel
theorem dM_layBest_170 : decode bM_layBest 170 = .ok (.aload_n 0, 1) := by decide +kernel
theorem dM_layBest_171 : decode bM_layBest 171 = .ok (.iload_n 3, 1) := by decide +kernel
theorem dM_layBest_172 : decode bM_layBest 172 = .ok (.invokevirtual 68, 3) := by decide +kernel
theorem dM_layBest_175 : decode bM_layBest 175 = .ok (.ifCond .eq 7, 3) := by decide +kernel
theorem dM_layBest_178 : decode bM_layBest 178 = .ok (.iconst 1, 1) := by decide +kernel
theorem dM_layBest_179 : decode bM_layBest 179 = .ok (.goto 4, 3) := by decide +kernel
theorem dM_layBest_182 : decode bM_layBest 182 = .ok (.iconst 0, 1) := by decide +kernel
theorem dM_layBest_183 : decode bM_layBest 183 = .ok (.istore_n 2, 1) := by decide +kernel
theorem dM_layBest_184 : decode bM_layBest 184 = .ok (.goto 30, 3) := by decide +kernel
theorem dM_layBest_187 : decode bM_layBest 187 = .ok (.aload_n 0, 1) := by decide +kernel
theorem dM_layBest_188 : decode bM_layBest 188 = .ok (.iload_n 3, 1) := by decide +kernel
theorem dM_layBest_189 : decode bM_layBest 189 = .ok (.aload_n 0, 1) := by decide +kernel
theorem dM_layBest_190 : decode bM_layBest 190 = .ok (.getfield 33, 3) := by decide +kernel
theorem dM_layBest_193 : decode bM_layBest 193 = .ok (.iload_n 3, 1) := by decide +kernel
theorem dM_layBest_194 : decode bM_layBest 194 = .ok (.iconst 1, 1) := by decide +kernel
theorem dM_layBest_195 : decode bM_layBest 195 = .ok (.isub, 1) := by decide +kernel
theorem dM_layBest_196 : decode bM_layBest 196 = .ok (.iaload, 1) := by decide +kernel
theorem dM_layBest_197 : decode bM_layBest 197 = .ok (.iload_n 1, 1) := by decide +kernel
theorem dM_layBest_198 : decode bM_layBest 198 = .ok (.iload 5, 2) := by decide +kernel
theorem dM_layBest_200 : decode bM_layBest 200 = .ok (.iadd, 1) := by decide +kernel
theorem dM_layBest_201 : decode bM_layBest 201 = .ok (.iload 5, 2) := by decide +kernel
theorem dM_layBest_203 : decode bM_layBest 203 = .ok (.iconst 0, 1) := by decide +kernel
theorem dM_layBest_204 : decode bM_layBest 204 = .ok (.invokevirtual 100, 3) := by decide +kernel
theorem dM_layBest_207 : decode bM_layBest 207 = .ok (.aload_n 0, 1) := by decide +kernel
theorem dM_layBest_208 : decode bM_layBest 208 = .ok (.iload_n 3, 1) := by decide +kernel
theorem dM_layBest_209 : decode bM_layBest 209 = .ok (.iload_n 2, 1) := by decide +kernel
theorem dM_layBest_210 : decode bM_layBest 210 = .ok (.invokevirtual 71, 3) := by decide +kernel
theorem dM_layBest_213 : decode bM_layBest 213 = .ok (.istore_n 2, 1) := by decide +kernel
theorem dM_layBest_214 : decode bM_layBest 214 = .ok (.aload_n 0, 1) := by decide +kernel
theorem dM_layBest_215 : decode bM_layBest 215 = .ok (.getfield 36, 3) := by decide +kernel
theorem dM_layBest_218 : decode bM_layBest 218 = .ok (.iload_n 3, 1) := by decide +kernel
theorem dM_layBest_219 : decode bM_layBest 219 = .ok (.iaload, 1) := by decide +kernel
theorem dM_layBest_220 : decode bM_layBest 220 = .ok (.aload_n 0, 1) := by decide +kernel
theorem dM_layBest_221 : decode bM_layBest 221 = .ok (.getfield 26, 3) := by decide +kernel
theorem dM_layBest_224 : decode bM_layBest 224 = .ok (.iload_n 3, 1) := by decide +kernel
theorem dM_layBest_225 : decode bM_layBest 225 = .ok (.iaload, 1) := by decide +kernel
theorem dM_layBest_226 : decode bM_layBest 226 = .ok (.iadd, 1) := by decide +kernel
theorem dM_layBest_227 : decode bM_layBest 227 = .ok (.istore_n 1, 1) := by decide +kernel
theorem dM_layBest_228 : decode bM_layBest 228 = .ok (.iinc 3 1, 3) := by decide +kernel
theorem dM_layBest_231 : decode bM_layBest 231 = .ok (.goto (-216), 3) := by decide +kernel
theorem dM_layBest_234 : decode bM_layBest 234 = .ok (.iconst 1, 1) := by decide +kernel
theorem dM_layBest_235 : decode bM_layBest 235 = .ok (.ireturn, 1) := by decide +kernel
theorem dM_isOut_0 : decode bM_isOut 0 = .ok (.aload_n 0, 1) := by decide +kernel
theorem dM_isOut_1 : decode bM_isOut 1 = .ok (.iload_n 1, 1) := by decide +kernel
theorem dM_isOut_2 : decode bM_isOut 2 = .ok (.invokevirtual 68, 3) := by decide +kernel
theorem dM_isOut_5 : decode bM_isOut 5 = .ok (.ifCond .eq 24, 3) := by decide +kernel
theorem dM_isOut_8 : decode bM_isOut 8 = .ok (.aload_n 0, 1) := by decide +kernel
theorem dM_isOut_9 : decode bM_isOut 9 = .ok (.getfield 36, 3) := by decide +kernel
theorem dM_isOut_12 : decode bM_isOut 12 = .ok (.iload_n 1, 1) := by decide +kernel
theorem dM_isOut_13 : decode bM_isOut 13 = .ok (.iaload, 1) := by decide +kernel
theorem dM_isOut_14 : decode bM_isOut 14 = .ok (.aload_n 0, 1) := by decide +kernel
theorem dM_isOut_15 : decode bM_isOut 15 = .ok (.getfield 7, 3) := by decide +kernel
theorem dM_isOut_18 : decode bM_isOut 18 = .ok (.bipush 48, 2) := by decide +kernel
theorem dM_isOut_20 : decode bM_isOut 20 = .ok (.iaload, 1) := by decide +kernel
theorem dM_isOut_21 : decode bM_isOut 21 = .ok (.irem, 1) := by decide +kernel
theorem dM_isOut_22 : decode bM_isOut 22 = .ok (.ifCond .eq 7, 3) := by decide +kernel
theorem dM_isOut_25 : decode bM_isOut 25 = .ok (.iconst 1, 1) := by decide +kernel
theorem dM_isOut_26 : decode bM_isOut 26 = .ok (.goto 4, 3) := by decide +kernel
theorem dM_isOut_29 : decode bM_isOut 29 = .ok (.iconst 0, 1) := by decide +kernel
theorem dM_isOut_30 : decode bM_isOut 30 = .ok (.ireturn, 1) := by decide +kernel
theorem dM_isLast_0 : decode bM_isLast 0 = .ok (.iload_n 1, 1) := by decide +kernel
theorem dM_isLast_1 : decode bM_isLast 1 = .ok (.aload_n 0, 1) := by decide +kernel
theorem dM_isLast_2 : decode bM_isLast 2 = .ok (.getfield 64, 3) := by decide +kernel
theorem dM_isLast_5 : decode bM_isLast 5 = .ok (.iconst 1, 1) := by decide +kernel
theorem dM_isLast_6 : decode bM_isLast 6 = .ok (.isub, 1) := by decide +kernel
theorem dM_isLast_7 : decode bM_isLast 7 = .ok (.if_icmp .eq 14, 3) := by decide +kernel
theorem dM_isLast_10 : decode bM_isLast 10 = .ok (.aload_n 0, 1) := by decide +kernel
theorem dM_isLast_11 : decode bM_isLast 11 = .ok (.getfield 42, 3) := by decide +kernel
theorem dM_isLast_14 : decode bM_isLast 14 = .ok (.iload_n 1, 1) := by decide +kernel
theorem dM_isLast_15 : decode bM_isLast 15 = .ok (.iconst 1, 1) := by decide +kernel
theorem dM_isLast_16 : decode bM_isLast 16 = .ok (.iadd, 1) := by decide +kernel
theorem dM_isLast_17 : decode bM_isLast 17 = .ok (.baload, 1) := by decide +kernel
theorem dM_isLast_18 : decode bM_isLast 18 = .ok (.ifCond .eq 7, 3) := by decide +kernel
theorem dM_isLast_21 : decode bM_isLast 21 = .ok (.iconst 1, 1) := by decide +kernel
theorem dM_isLast_22 : decode bM_isLast 22 = .ok (.goto 4, 3) := by decide +kernel
theorem dM_isLast_25 : decode bM_isLast 25 = .ok (.iconst 0, 1) := by decide +kernel
theorem dM_isLast_26 : decode bM_isLast 26 = .ok (.ireturn, 1) := by decide +kernel
theorem dM_best_0 : decode bM_best 0 = .ok (.iload_n 1, 1) := by decide +kernel
theorem dM_best_1 : decode bM_best 1 = .ok (.iconst 0, 1) := by decide +kernel
theorem dM_best_2 : decode bM_best 2 = .ok (.iconst 4, 1) := by decide +kernel
theorem dM_best_3 : decode bM_best 3 = .ok (.invokestatic 45, 3) := by decide +kernel
theorem dM_best_6 : decode bM_best 6 = .ok (.ifCond .ne 6, 3) := by decide +kernel
theorem dM_best_9 : decode bM_best 9 = .ok (.bipush (-2), 2) := by decide +kernel
theorem dM_best_11 : decode bM_best 11 = .ok (.ireturn, 1) := by decide +kernel
theorem dM_best_12 : decode bM_best 12 = .ok (.aload_n 0, 1) := by decide +kernel
theorem dM_best_13 : decode bM_best 13 = .ok (.invokevirtual 104, 3) := by decide +kernel
theorem dM_best_16 : decode bM_best 16 = .ok (.ifCond .ne 6, 3) := by decide +kernel
theorem dM_best_19 : decode bM_best 19 = .ok (.bipush (-6), 2) := by decide +kernel
theorem dM_best_21 : decode bM_best 21 = .ok (.ireturn, 1) := by decide +kernel
theorem dM_best_22 : decode bM_best 22 = .ok (.iconst 0, 1) := by decide +kernel
theorem dM_best_23 : decode bM_best 23 = .ok (.istore_n 2, 1) := by decide +kernel
theorem dM_best_24 : decode bM_best 24 = .ok (.iconst 0, 1) := by decide +kernel
theorem dM_best_25 : decode bM_best 25 = .ok (.istore_n 3, 1) := by decide +kernel
theorem dM_best_26 : decode bM_best 26 = .ok (.iconst 0, 1) := by decide +kernel
theorem dM_best_27 : decode bM_best 27 = .ok (.istore 4, 2) := by decide +kernel
theorem dM_best_29 : decode bM_best 29 = .ok (.iconst 0, 1) := by decide +kernel
theorem dM_best_30 : decode bM_best 30 = .ok (.istore 5, 2) := by decide +kernel
theorem dM_best_32 : decode bM_best 32 = .ok (.iconst 0, 1) := by decide +kernel
theorem dM_best_33 : decode bM_best 33 = .ok (.istore 6, 2) := by decide +kernel
theorem dM_best_35 : decode bM_best 35 = .ok (.iload 6, 2) := by decide +kernel
theorem dM_best_37 : decode bM_best 37 = .ok (.aload_n 0, 1) := by decide +kernel
theorem dM_best_38 : decode bM_best 38 = .ok (.getfield 64, 3) := by decide +kernel
theorem dM_best_41 : decode bM_best 41 = .ok (.if_icmp .ge 116, 3) := by decide +kernel
theorem dM_best_44 : decode bM_best 44 = .ok (.iload_n 2, 1) := by decide +kernel
theorem dM_best_45 : decode bM_best 45 = .ok (.aload_n 0, 1) := by decide +kernel
theorem dM_best_46 : decode bM_best 46 = .ok (.iload 6, 2) := by decide +kernel
theorem dM_best_48 : decode bM_best 48 = .ok (.invokevirtual 108, 3) := by decide +kernel
theorem dM_best_51 : decode bM_best 51 = .ok (.ifCond .eq 7, 3) := by decide +kernel
theorem dM_best_54 : decode bM_best 54 = .ok (.iconst 1, 1) := by decide +kernel
theorem dM_best_55 : decode bM_best 55 = .ok (.goto 4, 3) := by decide +kernel
theorem dM_best_58 : decode bM_best 58 = .ok (.iconst 0, 1) := by decide +kernel
theorem dM_best_59 : decode bM_best 59 = .ok (.iadd, 1) := by decide +kernel
theorem dM_best_60 : decode bM_best 60 = .ok (.istore_n 2, 1) := by decide +kernel
theorem dM_best_61 : decode bM_best 61 = .ok (.iload_n 3, 1) := by decide +kernel
theorem dM_best_62 : decode bM_best 62 = .ok (.aload_n 0, 1) := by decide +kernel
theorem dM_best_63 : decode bM_best 63 = .ok (.getfield 39, 3) := by decide +kernel
theorem dM_best_66 : decode bM_best 66 = .ok (.iload 6, 2) := by decide +kernel
theorem dM_best_68 : decode bM_best 68 = .ok (.iaload, 1) := by decide +kernel
theorem dM_best_69 : decode bM_best 69 = .ok (.iadd, 1) := by decide +kernel
theorem dM_best_70 : decode bM_best 70 = .ok (.istore_n 3, 1) := by decide +kernel
theorem dM_best_71 : decode bM_best 71 = .ok (.iload 4, 2) := by decide +kernel
theorem dM_best_73 : decode bM_best 73 = .ok (.aload_n 0, 1) := by decide +kernel
theorem dM_best_74 : decode bM_best 74 = .ok (.getfield 42, 3) := by decide +kernel
theorem dM_best_77 : decode bM_best 77 = .ok (.iload 6, 2) := by decide +kernel
theorem dM_best_79 : decode bM_best 79 = .ok (.baload, 1) := by decide +kernel
theorem dM_best_80 : decode bM_best 80 = .ok (.ifCond .eq 26, 3) := by decide +kernel
theorem dM_best_83 : decode bM_best 83 = .ok (.aload_n 0, 1) := by decide +kernel
theorem dM_best_84 : decode bM_best 84 = .ok (.iload 6, 2) := by decide +kernel
theorem dM_best_86 : decode bM_best 86 = .ok (.invokevirtual 68, 3) := by decide +kernel
theorem dM_best_89 : decode bM_best 89 = .ok (.ifCond .eq 17, 3) := by decide +kernel
theorem dM_best_92 : decode bM_best 92 = .ok (.aload_n 0, 1) := by decide +kernel
theorem dM_best_93 : decode bM_best 93 = .ok (.getfield 23, 3) := by decide +kernel
theorem dM_best_96 : decode bM_best 96 = .ok (.iload 6, 2) := by decide +kernel
theorem dM_best_98 : decode bM_best 98 = .ok (.iaload, 1) := by decide +kernel
theorem dM_best_99 : decode bM_best 99 = .ok (.ifCond .le 7, 3) := by decide +kernel
theorem dM_best_102 : decode bM_best 102 = .ok (.iconst 1, 1) := by decide +kernel
theorem dM_best_103 : decode bM_best 103 = .ok (.goto 4, 3) := by decide +kernel
theorem dM_best_106 : decode bM_best 106 = .ok (.iconst 0, 1) := by decide +kernel
theorem dM_best_107 : decode bM_best 107 = .ok (.iadd, 1) := by decide +kernel
theorem dM_best_108 : decode bM_best 108 = .ok (.istore 4, 2) := by decide +kernel
theorem dM_best_110 : decode bM_best 110 = .ok (.iload 5, 2) := by decide +kernel
theorem dM_best_112 : decode bM_best 112 = .ok (.aload_n 0, 1) := by decide +kernel
theorem dM_best_113 : decode bM_best 113 = .ok (.iload 6, 2) := by decide +kernel
theorem dM_best_115 : decode bM_best 115 = .ok (.invokevirtual 111, 3) := by decide +kernel
theorem dM_best_118 : decode bM_best 118 = .ok (.ifCond .eq 29, 3) := by decide +kernel
theorem dM_best_121 : decode bM_best 121 = .ok (.aload_n 0, 1) := by decide +kernel
theorem dM_best_122 : decode bM_best 122 = .ok (.getfield 7, 3) := by decide +kernel
theorem dM_best_125 : decode bM_best 125 = .ok (.bipush 49, 2) := by decide +kernel
theorem dM_best_127 : decode bM_best 127 = .ok (.iaload, 1) := by decide +kernel
theorem dM_best_128 : decode bM_best 128 = .ok (.aload_n 0, 1) := by decide +kernel
theorem dM_best_129 : decode bM_best 129 = .ok (.getfield 36, 3) := by decide +kernel
theorem dM_best_132 : decode bM_best 132 = .ok (.iload 6, 2) := by decide +kernel
theorem dM_best_134 : decode bM_best 134 = .ok (.iaload, 1) := by decide +kernel
theorem dM_best_135 : decode bM_best 135 = .ok (.isub, 1) := by decide +kernel
theorem dM_best_136 : decode bM_best 136 = .ok (.aload_n 0, 1) := by decide +kernel
theorem dM_best_137 : decode bM_best 137 = .ok (.getfield 26, 3) := by decide +kernel
theorem dM_best_140 : decode bM_best 140 = .ok (.iload 6, 2) := by decide +kernel
theorem dM_best_142 : decode bM_best 142 = .ok (.iaload, 1) := by decide +kernel
theorem dM_best_143 : decode bM_best 143 = .ok (.isub, 1) := by decide +kernel
theorem dM_best_144 : decode bM_best 144 = .ok (.goto 4, 3) := by decide +kernel
theorem dM_best_147 : decode bM_best 147 = .ok (.iconst 0, 1) := by decide +kernel
theorem dM_best_148 : decode bM_best 148 = .ok (.iadd, 1) := by decide +kernel
theorem dM_best_149 : decode bM_best 149 = .ok (.istore 5, 2) := by decide +kernel
theorem dM_best_151 : decode bM_best 151 = .ok (.iinc 6 1, 3) := by decide +kernel
theorem dM_best_154 : decode bM_best 154 = .ok (.goto (-119), 3) := by decide +kernel
theorem dM_best_157 : decode bM_best 157 = .ok (.aload_n 0, 1) := by decide +kernel
theorem dM_best_158 : decode bM_best 158 = .ok (.getfield 64, 3) := by decide +kernel
theorem dM_best_161 : decode bM_best 161 = .ok (.ifCond .ne 7, 3) := by decide +kernel
theorem dM_best_164 : decode bM_best 164 = .ok (.iconst 0, 1) := by decide +kernel
theorem dM_best_165 : decode bM_best 165 = .ok (.goto 16, 3) := by decide +kernel
theorem dM_best_168 : decode bM_best 168 = .ok (.aload_n 0, 1) := by decide +kernel
theorem dM_best_169 : decode bM_best 169 = .ok (.getfield 33, 3) := by decide +kernel
theorem dM_best_172 : decode bM_best 172 = .ok (.aload_n 0, 1) := by decide +kernel
theorem dM_best_173 : decode bM_best 173 = .ok (.getfield 64, 3) := by decide +kernel
theorem dM_best_176 : decode bM_best 176 = .ok (.iconst 1, 1) := by decide +kernel
theorem dM_best_177 : decode bM_best 177 = .ok (.isub, 1) := by decide +kernel
theorem dM_best_178 : decode bM_best 178 = .ok (.iaload, 1) := by decide +kernel
theorem dM_best_179 : decode bM_best 179 = .ok (.iconst 1, 1) := by decide +kernel
theorem dM_best_180 : decode bM_best 180 = .ok (.iadd, 1) := by decide +kernel
theorem dM_best_181 : decode bM_best 181 = .ok (.istore 6, 2) := by decide +kernel
theorem dM_best_183 : decode bM_best 183 = .ok (.iload_n 1, 1) := by decide +kernel
theorem dM_best_184 : decode bM_best 184 = .ok (.ifCond .ne 8, 3) := by decide +kernel
theorem dM_best_187 : decode bM_best 187 = .ok (.iload 6, 2) := by decide +kernel
theorem dM_best_189 : decode bM_best 189 = .ok (.goto 33, 3) := by decide +kernel
theorem dM_best_192 : decode bM_best 192 = .ok (.iload_n 1, 1) := by decide +kernel
theorem dM_best_193 : decode bM_best 193 = .ok (.iconst 1, 1) := by decide +kernel
theorem dM_best_194 : decode bM_best 194 = .ok (.if_icmp .ne 7, 3) := by decide +kernel
theorem dM_best_197 : decode bM_best 197 = .ok (.iload_n 2, 1) := by decide +kernel
theorem dM_best_198 : decode bM_best 198 = .ok (.goto 24, 3) := by decide +kernel
theorem dM_best_201 : decode bM_best 201 = .ok (.iload_n 1, 1) := by decide +kernel
theorem dM_best_202 : decode bM_best 202 = .ok (.iconst 2, 1) := by decide +kernel
theorem dM_best_203 : decode bM_best 203 = .ok (.if_icmp .ne 7, 3) := by decide +kernel
theorem dM_best_206 : decode bM_best 206 = .ok (.iload_n 3, 1) := by decide +kernel
theorem dM_best_207 : decode bM_best 207 = .ok (.goto 15, 3) := by decide +kernel
theorem dM_best_210 : decode bM_best 210 = .ok (.iload_n 1, 1) := by decide +kernel
theorem dM_best_211 : decode bM_best 211 = .ok (.iconst 3, 1) := by decide +kernel
theorem dM_best_212 : decode bM_best 212 = .ok (.if_icmp .ne 8, 3) := by decide +kernel
theorem dM_best_215 : decode bM_best 215 = .ok (.iload 4, 2) := by decide +kernel
theorem dM_best_217 : decode bM_best 217 = .ok (.goto 5, 3) := by decide +kernel
theorem dM_best_220 : decode bM_best 220 = .ok (.iload 5, 2) := by decide +kernel
theorem dM_best_222 : decode bM_best 222 = .ok (.ireturn, 1) := by decide +kernel
theorem dM_place_0 : decode bM_place 0 = .ok (.aload_n 0, 1) := by decide +kernel
theorem dM_place_1 : decode bM_place 1 = .ok (.iload_n 1, 1) := by decide +kernel
theorem dM_place_2 : decode bM_place 2 = .ok (.invokevirtual 53, 3) := by decide +kernel
theorem dM_place_5 : decode bM_place 5 = .ok (.ifCond .ne 5, 3) := by decide +kernel
theorem dM_place_8 : decode bM_place 8 = .ok (.iconst (-1), 1) := by decide +kernel
theorem dM_place_9 : decode bM_place 9 = .ok (.ireturn, 1) := by decide +kernel
theorem dM_place_10 : decode bM_place 10 = .ok (.iload_n 3, 1) := by decide +kernel
theorem dM_place_11 : decode bM_place 11 = .ok (.iconst 0, 1) := by decide +kernel
theorem dM_place_12 : decode bM_place 12 = .ok (.iconst 3, 1) := by decide +kernel
theorem dM_place_13 : decode bM_place 13 = .ok (.invokestatic 45, 3) := by decide +kernel
theorem dM_place_16 : decode bM_place 16 = .ok (.ifCond .ne 6, 3) := by decide +kernel
theorem dM_place_19 : decode bM_place 19 = .ok (.bipush (-2), 2) := by decide +kernel
theorem dM_place_21 : decode bM_place 21 = .ok (.ireturn, 1) := by decide +kernel
theorem dM_place_22 : decode bM_place 22 = .ok (.aload_n 0, 1) := by decide +kernel
theorem dM_place_23 : decode bM_place 23 = .ok (.invokevirtual 104, 3) := by decide +kernel
theorem dM_place_26 : decode bM_place 26 = .ok (.ifCond .ne 6, 3) := by decide +kernel
theorem dM_place_29 : decode bM_place 29 = .ok (.bipush (-6), 2) := by decide +kernel
theorem dM_place_31 : decode bM_place 31 = .ok (.ireturn, 1) := by decide +kernel
theorem dM_place_32 : decode bM_place 32 = .ok (.iconst 0, 1) := by decide +kernel
theorem dM_place_33 : decode bM_place 33 = .ok (.istore 4, 2) := by decide +kernel
theorem dM_place_35 : decode bM_place 35 = .ok (.iload 4, 2) := by decide +kernel
theorem dM_place_37 : decode bM_place 37 = .ok (.aload_n 0, 1) := by decide +kernel
theorem dM_place_38 : decode bM_place 38 = .ok (.getfield 64, 3) := by decide +kernel
theorem dM_place_41 : decode bM_place 41 = .ok (.if_icmp .ge 91, 3) := by decide +kernel
theorem dM_place_44 : decode bM_place 44 = .ok (.aload_n 0, 1) := by decide +kernel
theorem dM_place_45 : decode bM_place 45 = .ok (.getfield 20, 3) := by decide +kernel
theorem dM_place_48 : decode bM_place 48 = .ok (.iload 4, 2) := by decide +kernel
theorem dM_place_50 : decode bM_place 50 = .ok (.iaload, 1) := by decide +kernel
theorem dM_place_51 : decode bM_place 51 = .ok (.iload_n 1, 1) := by decide +kernel
theorem dM_place_52 : decode bM_place 52 = .ok (.if_icmp .ne 74, 3) := by decide +kernel
theorem dM_place_55 : decode bM_place 55 = .ok (.aload_n 0, 1) := by decide +kernel
theorem dM_place_56 : decode bM_place 56 = .ok (.getfield 23, 3) := by decide +kernel
theorem dM_place_59 : decode bM_place 59 = .ok (.iload 4, 2) := by decide +kernel
theorem dM_place_61 : decode bM_place 61 = .ok (.iaload, 1) := by decide +kernel
theorem dM_place_62 : decode bM_place 62 = .ok (.iload_n 2, 1) := by decide +kernel
theorem dM_place_63 : decode bM_place 63 = .ok (.if_icmp .ne 63, 3) := by decide +kernel
theorem dM_place_66 : decode bM_place 66 = .ok (.iload_n 3, 1) := by decide +kernel
theorem dM_place_67 : decode bM_place 67 = .ok (.ifCond .ne 13, 3) := by decide +kernel
theorem dM_place_70 : decode bM_place 70 = .ok (.aload_n 0, 1) := by decide +kernel
theorem dM_place_71 : decode bM_place 71 = .ok (.getfield 33, 3) := by decide +kernel
theorem dM_place_74 : decode bM_place 74 = .ok (.iload 4, 2) := by decide +kernel
theorem dM_place_76 : decode bM_place 76 = .ok (.iaload, 1) := by decide +kernel
theorem dM_place_77 : decode bM_place 77 = .ok (.goto 48, 3) := by decide +kernel
theorem dM_place_80 : decode bM_place 80 = .ok (.iload_n 3, 1) := by decide +kernel
theorem dM_place_81 : decode bM_place 81 = .ok (.iconst 1, 1) := by decide +kernel
theorem dM_place_82 : decode bM_place 82 = .ok (.if_icmp .ne 13, 3) := by decide +kernel
theorem dM_place_85 : decode bM_place 85 = .ok (.aload_n 0, 1) := by decide +kernel
theorem dM_place_86 : decode bM_place 86 = .ok (.getfield 36, 3) := by decide +kernel
theorem dM_place_89 : decode bM_place 89 = .ok (.iload 4, 2) := by decide +kernel
theorem dM_place_91 : decode bM_place 91 = .ok (.iaload, 1) := by decide +kernel
theorem dM_place_92 : decode bM_place 92 = .ok (.goto 33, 3) := by decide +kernel
theorem dM_place_95 : decode bM_place 95 = .ok (.iload_n 3, 1) := by decide +kernel
theorem dM_place_96 : decode bM_place 96 = .ok (.iconst 2, 1) := by decide +kernel
theorem dM_place_97 : decode bM_place 97 = .ok (.if_icmp .ne 13, 3) := by decide +kernel
theorem dM_place_100 : decode bM_place 100 = .ok (.aload_n 0, 1) := by decide +kernel
theorem dM_place_101 : decode bM_place 101 = .ok (.getfield 39, 3) := by decide +kernel
theorem dM_place_104 : decode bM_place 104 = .ok (.iload 4, 2) := by decide +kernel
theorem dM_place_106 : decode bM_place 106 = .ok (.iaload, 1) := by decide +kernel
theorem dM_place_107 : decode bM_place 107 = .ok (.goto 18, 3) := by decide +kernel
theorem dM_place_110 : decode bM_place 110 = .ok (.aload_n 0, 1) := by decide +kernel
theorem dM_place_111 : decode bM_place 111 = .ok (.getfield 36, 3) := by decide +kernel
theorem dM_place_114 : decode bM_place 114 = .ok (.iload 4, 2) := by decide +kernel
theorem dM_place_116 : decode bM_place 116 = .ok (.iaload, 1) := by decide +kernel
theorem dM_place_117 : decode bM_place 117 = .ok (.aload_n 0, 1) := by decide +kernel
theorem dM_place_118 : decode bM_place 118 = .ok (.getfield 7, 3) := by decide +kernel
theorem dM_place_121 : decode bM_place 121 = .ok (.bipush 48, 2) := by decide +kernel
theorem dM_place_123 : decode bM_place 123 = .ok (.iaload, 1) := by decide +kernel
theorem dM_place_124 : decode bM_place 124 = .ok (.irem, 1) := by decide +kernel
theorem dM_place_125 : decode bM_place 125 = .ok (.ireturn, 1) := by decide +kernel
theorem dM_place_126 : decode bM_place 126 = .ok (.iinc 4 1, 3) := by decide +kernel
theorem dM_place_129 : decode bM_place 129 = .ok (.goto (-94), 3) := by decide +kernel
theorem dM_place_132 : decode bM_place 132 = .ok (.bipush (-6), 2) := by decide +kernel
theorem dM_place_134 : decode bM_place 134 = .ok (.ireturn, 1) := by decide +kernel
theorem dM_column_0 : decode bM_column 0 = .ok (.iload_n 2, 1) := by decide +kernel
theorem dM_column_1 : decode bM_column 1 = .ok (.iconst 0, 1) := by decide +kernel
theorem dM_column_2 : decode bM_column 2 = .ok (.iconst 4, 1) := by decide +kernel
theorem dM_column_3 : decode bM_column 3 = .ok (.invokestatic 45, 3) := by decide +kernel
theorem dM_column_6 : decode bM_column 6 = .ok (.ifCond .ne 6, 3) := by decide +kernel
theorem dM_column_9 : decode bM_column 9 = .ok (.bipush (-2), 2) := by decide +kernel
theorem dM_column_11 : decode bM_column 11 = .ok (.ireturn, 1) := by decide +kernel
theorem dM_column_12 : decode bM_column 12 = .ok (.aload_n 0, 1) := by decide +kernel
theorem dM_column_13 : decode bM_column 13 = .ok (.invokevirtual 104, 3) := by decide +kernel
theorem dM_column_16 : decode bM_column 16 = .ok (.ifCond .ne 6, 3) := by decide +kernel
theorem dM_column_19 : decode bM_column 19 = .ok (.bipush (-6), 2) := by decide +kernel
theorem dM_column_21 : decode bM_column 21 = .ok (.ireturn, 1) := by decide +kernel
theorem dM_column_22 : decode bM_column 22 = .ok (.iconst 0, 1) := by decide +kernel
theorem dM_column_23 : decode bM_column 23 = .ok (.istore_n 3, 1) := by decide +kernel
theorem dM_column_24 : decode bM_column 24 = .ok (.iconst 0, 1) := by decide +kernel
theorem dM_column_25 : decode bM_column 25 = .ok (.istore 4, 2) := by decide +kernel
theorem dM_column_27 : decode bM_column 27 = .ok (.iconst 0, 1) := by decide +kernel
theorem dM_column_28 : decode bM_column 28 = .ok (.istore 5, 2) := by decide +kernel
theorem dM_column_30 : decode bM_column 30 = .ok (.bipush (-6), 2) := by decide +kernel
theorem dM_column_32 : decode bM_column 32 = .ok (.istore 6, 2) := by decide +kernel
theorem dM_column_34 : decode bM_column 34 = .ok (.bipush (-6), 2) := by decide +kernel
theorem dM_column_36 : decode bM_column 36 = .ok (.istore 7, 2) := by decide +kernel
theorem dM_column_38 : decode bM_column 38 = .ok (.iconst 0, 1) := by decide +kernel
theorem dM_column_39 : decode bM_column 39 = .ok (.istore 8, 2) := by decide +kernel
theorem dM_column_41 : decode bM_column 41 = .ok (.iload 8, 2) := by decide +kernel
theorem dM_column_43 : decode bM_column 43 = .ok (.aload_n 0, 1) := by decide +kernel
theorem dM_column_44 : decode bM_column 44 = .ok (.getfield 64, 3) := by decide +kernel
theorem dM_column_47 : decode bM_column 47 = .ok (.if_icmp .ge 87, 3) := by decide +kernel
theorem dM_column_50 : decode bM_column 50 = .ok (.aload_n 0, 1) := by decide +kernel
theorem dM_column_51 : decode bM_column 51 = .ok (.getfield 33, 3) := by decide +kernel
theorem dM_column_54 : decode bM_column 54 = .ok (.iload 8, 2) := by decide +kernel
theorem dM_column_56 : decode bM_column 56 = .ok (.iaload, 1) := by decide +kernel
theorem dM_column_57 : decode bM_column 57 = .ok (.iload_n 1, 1) := by decide +kernel
theorem dM_column_58 : decode bM_column 58 = .ok (.if_icmp .ne 70, 3) := by decide +kernel
theorem dM_column_61 : decode bM_column 61 = .ok (.iinc 3 1, 3) := by decide +kernel
theorem dM_column_64 : decode bM_column 64 = .ok (.aload_n 0, 1) := by decide +kernel
theorem dM_column_65 : decode bM_column 65 = .ok (.getfield 36, 3) := by decide +kernel
theorem dM_column_68 : decode bM_column 68 = .ok (.iload 8, 2) := by decide +kernel
theorem dM_column_70 : decode bM_column 70 = .ok (.iaload, 1) := by decide +kernel
theorem dM_column_71 : decode bM_column 71 = .ok (.aload_n 0, 1) := by decide +kernel
theorem dM_column_72 : decode bM_column 72 = .ok (.getfield 26, 3) := by decide +kernel
theorem dM_column_75 : decode bM_column 75 = .ok (.iload 8, 2) := by decide +kernel
theorem dM_column_77 : decode bM_column 77 = .ok (.iaload, 1) := by decide +kernel
theorem dM_column_78 : decode bM_column 78 = .ok (.iadd, 1) := by decide +kernel
theorem dM_column_79 : decode bM_column 79 = .ok (.istore 4, 2) := by decide +kernel
theorem dM_column_81 : decode bM_column 81 = .ok (.iload 5, 2) := by decide +kernel
theorem dM_column_83 : decode bM_column 83 = .ok (.aload_n 0, 1) := by decide +kernel
theorem dM_column_84 : decode bM_column 84 = .ok (.iload 8, 2) := by decide +kernel
theorem dM_column_86 : decode bM_column 86 = .ok (.invokevirtual 108, 3) := by decide +kernel
theorem dM_column_89 : decode bM_column 89 = .ok (.ifCond .eq 7, 3) := by decide +kernel
theorem dM_column_92 : decode bM_column 92 = .ok (.iconst 1, 1) := by decide +kernel
theorem dM_column_93 : decode bM_column 93 = .ok (.goto 4, 3) := by decide +kernel
theorem dM_column_96 : decode bM_column 96 = .ok (.iconst 0, 1) := by decide +kernel
theorem dM_column_97 : decode bM_column 97 = .ok (.iadd, 1) := by decide +kernel
theorem dM_column_98 : decode bM_column 98 = .ok (.istore 5, 2) := by decide +kernel
theorem dM_column_100 : decode bM_column 100 = .ok (.iload 6, 2) := by decide +kernel
theorem dM_column_102 : decode bM_column 102 = .ok (.ifCond .ge 13, 3) := by decide +kernel
theorem dM_column_105 : decode bM_column 105 = .ok (.aload_n 0, 1) := by decide +kernel
theorem dM_column_106 : decode bM_column 106 = .ok (.getfield 20, 3) := by decide +kernel
theorem dM_column_109 : decode bM_column 109 = .ok (.iload 8, 2) := by decide +kernel
theorem dM_column_111 : decode bM_column 111 = .ok (.iaload, 1) := by decide +kernel
theorem dM_column_112 : decode bM_column 112 = .ok (.goto 5, 3) := by decide +kernel
theorem dM_column_115 : decode bM_column 115 = .ok (.iload 6, 2) := by decide +kernel
theorem dM_column_117 : decode bM_column 117 = .ok (.istore 6, 2) := by decide +kernel
theorem dM_column_119 : decode bM_column 119 = .ok (.aload_n 0, 1) := by decide +kernel
theorem dM_column_120 : decode bM_column 120 = .ok (.getfield 20, 3) := by decide +kernel
theorem dM_column_123 : decode bM_column 123 = .ok (.iload 8, 2) := by decide +kernel
theorem dM_column_125 : decode bM_column 125 = .ok (.iaload, 1) := by decide +kernel
theorem dM_column_126 : decode bM_column 126 = .ok (.istore 7, 2) := by decide +kernel
theorem dM_column_128 : decode bM_column 128 = .ok (.iinc 8 1, 3) := by decide +kernel
theorem dM_column_131 : decode bM_column 131 = .ok (.goto (-90), 3) := by decide +kernel
theorem dM_column_134 : decode bM_column 134 = .ok (.iload_n 3, 1) := by decide +kernel
theorem dM_column_135 : decode bM_column 135 = .ok (.ifCond .ne 8, 3) := by decide +kernel
theorem dM_column_138 : decode bM_column 138 = .ok (.bipush (-6), 2) := by decide +kernel
theorem dM_column_140 : decode bM_column 140 = .ok (.goto 43, 3) := by decide +kernel
theorem dM_column_143 : decode bM_column 143 = .ok (.iload_n 2, 1) := by decide +kernel
theorem dM_column_144 : decode bM_column 144 = .ok (.ifCond .ne 7, 3) := by decide +kernel
theorem dM_column_147 : decode bM_column 147 = .ok (.iload_n 3, 1) := by decide +kernel
theorem dM_column_148 : decode bM_column 148 = .ok (.goto 35, 3) := by decide +kernel
theorem dM_column_151 : decode bM_column 151 = .ok (.iload_n 2, 1) := by decide +kernel
theorem dM_column_152 : decode bM_column 152 = .ok (.iconst 1, 1) := by decide +kernel
theorem dM_column_153 : decode bM_column 153 = .ok (.if_icmp .ne 8, 3) := by decide +kernel
theorem dM_column_156 : decode bM_column 156 = .ok (.iload 4, 2) := by decide +kernel
theorem dM_column_158 : decode bM_column 158 = .ok (.goto 25, 3) := by decide +kernel
theorem dM_column_161 : decode bM_column 161 = .ok (.iload_n 2, 1) := by decide +kernel
theorem dM_column_162 : decode bM_column 162 = .ok (.iconst 2, 1) := by decide +kernel
theorem dM_column_163 : decode bM_column 163 = .ok (.if_icmp .ne 8, 3) := by decide +kernel
theorem dM_column_166 : decode bM_column 166 = .ok (.iload 5, 2) := by decide +kernel
theorem dM_column_168 : decode bM_column 168 = .ok (.goto 15, 3) := by decide +kernel
theorem dM_column_171 : decode bM_column 171 = .ok (.iload_n 2, 1) := by decide +kernel
theorem dM_column_172 : decode bM_column 172 = .ok (.iconst 3, 1) := by decide +kernel
theorem dM_column_173 : decode bM_column 173 = .ok (.if_icmp .ne 8, 3) := by decide +kernel
theorem dM_column_176 : decode bM_column 176 = .ok (.iload 6, 2) := by decide +kernel
theorem dM_column_178 : decode bM_column 178 = .ok (.goto 5, 3) := by decide +kernel
theorem dM_column_181 : decode bM_column 181 = .ok (.iload 7, 2) := by decide +kernel
theorem dM_column_183 : decode bM_column 183 = .ok (.ireturn, 1) := by decide +kernel
theorem dM_hasLine_0 : decode bM_hasLine 0 = .ok (.iconst 0, 1) := by decide +kernel
theorem dM_hasLine_1 : decode bM_hasLine 1 = .ok (.istore_n 3, 1) := by decide +kernel
theorem dM_hasLine_2 : decode bM_hasLine 2 = .ok (.iconst 0, 1) := by decide +kernel
theorem dM_hasLine_3 : decode bM_hasLine 3 = .ok (.istore 4, 2) := by decide +kernel
theorem dM_hasLine_5 : decode bM_hasLine 5 = .ok (.iload 4, 2) := by decide +kernel
theorem dM_hasLine_7 : decode bM_hasLine 7 = .ok (.aload_n 0, 1) := by decide +kernel
theorem dM_hasLine_8 : decode bM_hasLine 8 = .ok (.getfield 64, 3) := by decide +kernel
theorem dM_hasLine_11 : decode bM_hasLine 11 = .ok (.if_icmp .ge 50, 3) := by decide +kernel
theorem dM_hasLine_14 : decode bM_hasLine 14 = .ok (.iload_n 3, 1) := by decide +kernel
theorem dM_hasLine_15 : decode bM_hasLine 15 = .ok (.ifCond .ne 34, 3) := by decide +kernel
theorem dM_hasLine_18 : decode bM_hasLine 18 = .ok (.aload_n 0, 1) := by decide +kernel
theorem dM_hasLine_19 : decode bM_hasLine 19 = .ok (.getfield 33, 3) := by decide +kernel
theorem dM_hasLine_22 : decode bM_hasLine 22 = .ok (.iload 4, 2) := by decide +kernel
theorem dM_hasLine_24 : decode bM_hasLine 24 = .ok (.iaload, 1) := by decide +kernel
theorem dM_hasLine_25 : decode bM_hasLine 25 = .ok (.iload_n 1, 1) := by decide +kernel
theorem dM_hasLine_26 : decode bM_hasLine 26 = .ok (.if_icmp .ne 27, 3) := by decide +kernel
theorem dM_hasLine_29 : decode bM_hasLine 29 = .ok (.aload_n 0, 1) := by decide +kernel
theorem dM_hasLine_30 : decode bM_hasLine 30 = .ok (.iload 4, 2) := by decide +kernel
theorem dM_hasLine_32 : decode bM_hasLine 32 = .ok (.invokevirtual 68, 3) := by decide +kernel
theorem dM_hasLine_35 : decode bM_hasLine 35 = .ok (.ifCond .eq 18, 3) := by decide +kernel
theorem dM_hasLine_38 : decode bM_hasLine 38 = .ok (.aload_n 0, 1) := by decide +kernel
theorem dM_hasLine_39 : decode bM_hasLine 39 = .ok (.getfield 36, 3) := by decide +kernel
theorem dM_hasLine_42 : decode bM_hasLine 42 = .ok (.iload 4, 2) := by decide +kernel
theorem dM_hasLine_44 : decode bM_hasLine 44 = .ok (.iaload, 1) := by decide +kernel
theorem dM_hasLine_45 : decode bM_hasLine 45 = .ok (.iload_n 2, 1) := by decide +kernel
theorem dM_hasLine_46 : decode bM_hasLine 46 = .ok (.if_icmp .ne 7, 3) := by decide +kernel
theorem dM_hasLine_49 : decode bM_hasLine 49 = .ok (.iconst 1, 1) := by decide +kernel
theorem dM_hasLine_50 : decode bM_hasLine 50 = .ok (.goto 4, 3) := by decide +kernel
theorem dM_hasLine_53 : decode bM_hasLine 53 = .ok (.iconst 0, 1) := by decide +kernel
theorem dM_hasLine_54 : decode bM_hasLine 54 = .ok (.istore_n 3, 1) := by decide +kernel
theorem dM_hasLine_55 : decode bM_hasLine 55 = .ok (.iinc 4 1, 3) := by decide +kernel
theorem dM_hasLine_58 : decode bM_hasLine 58 = .ok (.goto (-53), 3) := by decide +kernel
theorem dM_hasLine_61 : decode bM_hasLine 61 = .ok (.iload_n 3, 1) := by decide +kernel
theorem dM_hasLine_62 : decode bM_hasLine 62 = .ok (.ireturn, 1) := by decide +kernel
theorem dM_meet_0 : decode bM_meet 0 = .ok (.iload_n 1, 1) := by decide +kernel
theorem dM_meet_1 : decode bM_meet 1 = .ok (.iconst 0, 1) := by decide +kernel
theorem dM_meet_2 : decode bM_meet 2 = .ok (.bipush 72, 2) := by decide +kernel
theorem dM_meet_4 : decode bM_meet 4 = .ok (.invokestatic 45, 3) := by decide +kernel
theorem dM_meet_7 : decode bM_meet 7 = .ok (.ifCond .eq 34, 3) := by decide +kernel
theorem dM_meet_10 : decode bM_meet 10 = .ok (.aload_n 0, 1) := by decide +kernel
theorem dM_meet_11 : decode bM_meet 11 = .ok (.invokevirtual 104, 3) := by decide +kernel
theorem dM_meet_14 : decode bM_meet 14 = .ok (.ifCond .eq 27, 3) := by decide +kernel
theorem dM_meet_17 : decode bM_meet 17 = .ok (.aload_n 0, 1) := by decide +kernel
theorem dM_meet_18 : decode bM_meet 18 = .ok (.getfield 64, 3) := by decide +kernel
theorem dM_meet_21 : decode bM_meet 21 = .ok (.ifCond .eq 20, 3) := by decide +kernel
theorem dM_meet_24 : decode bM_meet 24 = .ok (.aload_n 0, 1) := by decide +kernel
theorem dM_meet_25 : decode bM_meet 25 = .ok (.getfield 33, 3) := by decide +kernel
theorem dM_meet_28 : decode bM_meet 28 = .ok (.aload_n 0, 1) := by decide +kernel
theorem dM_meet_29 : decode bM_meet 29 = .ok (.getfield 64, 3) := by decide +kernel
theorem dM_meet_32 : decode bM_meet 32 = .ok (.iconst 1, 1) := by decide +kernel
theorem dM_meet_33 : decode bM_meet 33 = .ok (.isub, 1) := by decide +kernel
theorem dM_meet_34 : decode bM_meet 34 = .ok (.iaload, 1) := by decide +kernel
theorem dM_meet_35 : decode bM_meet 35 = .ok (.iconst 2, 1) := by decide +kernel
theorem dM_meet_36 : decode bM_meet 36 = .ok (.iload_n 1, 1) := by decide +kernel
theorem dM_meet_37 : decode bM_meet 37 = .ok (.imul, 1) := by decide +kernel
theorem dM_meet_38 : decode bM_meet 38 = .ok (.if_icmp .ge 6, 3) := by decide +kernel
theorem dM_meet_41 : decode bM_meet 41 = .ok (.bipush (-6), 2) := by decide +kernel
theorem dM_meet_43 : decode bM_meet 43 = .ok (.ireturn, 1) := by decide +kernel
theorem dM_meet_44 : decode bM_meet 44 = .ok (.iconst 0, 1) := by decide +kernel
theorem dM_meet_45 : decode bM_meet 45 = .ok (.istore_n 2, 1) := by decide +kernel
theorem dM_meet_46 : decode bM_meet 46 = .ok (.iconst 0, 1) := by decide +kernel
theorem dM_meet_47 : decode bM_meet 47 = .ok (.istore_n 3, 1) := by decide +kernel
theorem dM_meet_48 : decode bM_meet 48 = .ok (.iload_n 3, 1) := by decide +kernel
theorem dM_meet_49 : decode bM_meet 49 = .ok (.sipush 201, 3) := by decide +kernel
theorem dM_meet_52 : decode bM_meet 52 = .ok (.if_icmp .ge 41, 3) := by decide +kernel
theorem dM_meet_55 : decode bM_meet 55 = .ok (.iload_n 2, 1) := by decide +kernel
theorem dM_meet_56 : decode bM_meet 56 = .ok (.aload_n 0, 1) := by decide +kernel
theorem dM_meet_57 : decode bM_meet 57 = .ok (.iconst 2, 1) := by decide +kernel
theorem dM_meet_58 : decode bM_meet 58 = .ok (.iload_n 1, 1) := by decide +kernel
theorem dM_meet_59 : decode bM_meet 59 = .ok (.imul, 1) := by decide +kernel
theorem dM_meet_60 : decode bM_meet 60 = .ok (.iload_n 3, 1) := by decide +kernel
theorem dM_meet_61 : decode bM_meet 61 = .ok (.invokevirtual 114, 3) := by decide +kernel
theorem dM_meet_64 : decode bM_meet 64 = .ok (.ifCond .eq 20, 3) := by decide +kernel
theorem dM_meet_67 : decode bM_meet 67 = .ok (.aload_n 0, 1) := by decide +kernel
theorem dM_meet_68 : decode bM_meet 68 = .ok (.iconst 2, 1) := by decide +kernel
theorem dM_meet_69 : decode bM_meet 69 = .ok (.iload_n 1, 1) := by decide +kernel
theorem dM_meet_70 : decode bM_meet 70 = .ok (.imul, 1) := by decide +kernel
theorem dM_meet_71 : decode bM_meet 71 = .ok (.iconst 1, 1) := by decide +kernel
theorem dM_meet_72 : decode bM_meet 72 = .ok (.iadd, 1) := by decide +kernel
theorem dM_meet_73 : decode bM_meet 73 = .ok (.iload_n 3, 1) := by decide +kernel
theorem dM_meet_74 : decode bM_meet 74 = .ok (.invokevirtual 114, 3) := by decide +kernel
theorem dM_meet_77 : decode bM_meet 77 = .ok (.ifCond .eq 7, 3) := by decide +kernel
theorem dM_meet_80 : decode bM_meet 80 = .ok (.iconst 1, 1) := by decide +kernel
theorem dM_meet_81 : decode bM_meet 81 = .ok (.goto 4, 3) := by decide +kernel
theorem dM_meet_84 : decode bM_meet 84 = .ok (.iconst 0, 1) := by decide +kernel
theorem dM_meet_85 : decode bM_meet 85 = .ok (.iadd, 1) := by decide +kernel
theorem dM_meet_86 : decode bM_meet 86 = .ok (.istore_n 2, 1) := by decide +kernel
theorem dM_meet_87 : decode bM_meet 87 = .ok (.iinc 3 1, 3) := by decide +kernel
theorem dM_meet_90 : decode bM_meet 90 = .ok (.goto (-42), 3) := by decide +kernel
theorem dM_meet_93 : decode bM_meet 93 = .ok (.iload_n 2, 1) := by decide +kernel
theorem dM_meet_94 : decode bM_meet 94 = .ok (.ireturn, 1) := by decide +kernel
theorem dM_outOf_0 : decode bM_outOf 0 = .ok (.iload_n 0, 1) := by decide +kernel
theorem dM_outOf_1 : decode bM_outOf 1 = .ok (.sipush 1000, 3) := by decide +kernel
theorem dM_outOf_4 : decode bM_outOf 4 = .ok (.idiv, 1) := by decide +kernel
theorem dM_outOf_5 : decode bM_outOf 5 = .ok (.sipush 1000, 3) := by decide +kernel
theorem dM_outOf_8 : decode bM_outOf 8 = .ok (.irem, 1) := by decide +kernel
theorem dM_outOf_9 : decode bM_outOf 9 = .ok (.ireturn, 1) := by decide +kernel
theorem dM_reliefBy_0 : decode bM_reliefBy 0 = .ok (.aload_n 0, 1) := by decide +kernel
theorem dM_reliefBy_1 : decode bM_reliefBy 1 = .ok (.getfield 7, 3) := by decide +kernel
theorem dM_reliefBy_4 : decode bM_reliefBy 4 = .ok (.bipush 36, 2) := by decide +kernel
theorem dM_reliefBy_6 : decode bM_reliefBy 6 = .ok (.iload_n 1, 1) := by decide +kernel
theorem dM_reliefBy_7 : decode bM_reliefBy 7 = .ok (.iadd, 1) := by decide +kernel
theorem dM_reliefBy_8 : decode bM_reliefBy 8 = .ok (.iaload, 1) := by decide +kernel
theorem dM_reliefBy_9 : decode bM_reliefBy 9 = .ok (.istore_n 2, 1) := by decide +kernel
theorem dM_reliefBy_10 : decode bM_reliefBy 10 = .ok (.aload_n 0, 1) := by decide +kernel
theorem dM_reliefBy_11 : decode bM_reliefBy 11 = .ok (.invokevirtual 96, 3) := by decide +kernel
theorem dM_reliefBy_14 : decode bM_reliefBy 14 = .ok (.invokestatic 117, 3) := by decide +kernel
theorem dM_reliefBy_17 : decode bM_reliefBy 17 = .ok (.istore_n 3, 1) := by decide +kernel
theorem dM_reliefBy_18 : decode bM_reliefBy 18 = .ok (.aload_n 0, 1) := by decide +kernel
theorem dM_reliefBy_19 : decode bM_reliefBy 19 = .ok (.getfield 7, 3) := by decide +kernel
theorem dM_reliefBy_22 : decode bM_reliefBy 22 = .ok (.bipush 36, 2) := by decide +kernel
theorem dM_reliefBy_24 : decode bM_reliefBy 24 = .ok (.iload_n 1, 1) := by decide +kernel
theorem dM_reliefBy_25 : decode bM_reliefBy 25 = .ok (.iadd, 1) := by decide +kernel
theorem dM_reliefBy_26 : decode bM_reliefBy 26 = .ok (.bipush 30, 2) := by decide +kernel
theorem dM_reliefBy_28 : decode bM_reliefBy 28 = .ok (.iastore, 1) := by decide +kernel
theorem dM_reliefBy_29 : decode bM_reliefBy 29 = .ok (.aload_n 0, 1) := by decide +kernel
theorem dM_reliefBy_30 : decode bM_reliefBy 30 = .ok (.invokevirtual 96, 3) := by decide +kernel
theorem dM_reliefBy_33 : decode bM_reliefBy 33 = .ok (.invokestatic 117, 3) := by decide +kernel
theorem dM_reliefBy_36 : decode bM_reliefBy 36 = .ok (.istore 4, 2) := by decide +kernel
theorem dM_reliefBy_38 : decode bM_reliefBy 38 = .ok (.aload_n 0, 1) := by decide +kernel
theorem dM_reliefBy_39 : decode bM_reliefBy 39 = .ok (.getfield 7, 3) := by decide +kernel
theorem dM_reliefBy_42 : decode bM_reliefBy 42 = .ok (.bipush 36, 2) := by decide +kernel
theorem dM_reliefBy_44 : decode bM_reliefBy 44 = .ok (.iload_n 1, 1) := by decide +kernel
theorem dM_reliefBy_45 : decode bM_reliefBy 45 = .ok (.iadd, 1) := by decide +kernel
theorem dM_reliefBy_46 : decode bM_reliefBy 46 = .ok (.iload_n 2, 1) := by decide +kernel
theorem dM_reliefBy_47 : decode bM_reliefBy 47 = .ok (.iastore, 1) := by decide +kernel
theorem dM_reliefBy_48 : decode bM_reliefBy 48 = .ok (.iload_n 3, 1) := by decide +kernel
theorem dM_reliefBy_49 : decode bM_reliefBy 49 = .ok (.iload 4, 2) := by decide +kernel
theorem dM_reliefBy_51 : decode bM_reliefBy 51 = .ok (.isub, 1) := by decide +kernel
theorem dM_reliefBy_52 : decode bM_reliefBy 52 = .ok (.ireturn, 1) := by decide +kernel
theorem dM_relief_0 : decode bM_relief 0 = .ok (.aload_n 0, 1) := by decide +kernel
theorem dM_relief_1 : decode bM_relief 1 = .ok (.iload_n 1, 1) := by decide +kernel
theorem dM_relief_2 : decode bM_relief 2 = .ok (.invokevirtual 53, 3) := by decide +kernel
theorem dM_relief_5 : decode bM_relief 5 = .ok (.ifCond .ne 5, 3) := by decide +kernel
theorem dM_relief_8 : decode bM_relief 8 = .ok (.iconst (-1), 1) := by decide +kernel
theorem dM_relief_9 : decode bM_relief 9 = .ok (.ireturn, 1) := by decide +kernel
theorem dM_relief_10 : decode bM_relief 10 = .ok (.aload_n 0, 1) := by decide +kernel
theorem dM_relief_11 : decode bM_relief 11 = .ok (.getfield 7, 3) := by decide +kernel
theorem dM_relief_14 : decode bM_relief 14 = .ok (.iload_n 1, 1) := by decide +kernel
theorem dM_relief_15 : decode bM_relief 15 = .ok (.iaload, 1) := by decide +kernel
theorem dM_relief_16 : decode bM_relief 16 = .ok (.ifCond .ne 6, 3) := by decide +kernel
theorem dM_relief_19 : decode bM_relief 19 = .ok (.bipush (-2), 2) := by decide +kernel
theorem dM_relief_21 : decode bM_relief 21 = .ok (.ireturn, 1) := by decide +kernel
theorem dM_relief_22 : decode bM_relief 22 = .ok (.aload_n 0, 1) := by decide +kernel
theorem dM_relief_23 : decode bM_relief 23 = .ok (.invokevirtual 96, 3) := by decide +kernel
theorem dM_relief_26 : decode bM_relief 26 = .ok (.ifCond .ge 8, 3) := by decide +kernel
theorem dM_relief_29 : decode bM_relief 29 = .ok (.bipush (-6), 2) := by decide +kernel
theorem dM_relief_31 : decode bM_relief 31 = .ok (.goto 12, 3) := by decide +kernel
theorem dM_relief_34 : decode bM_relief 34 = .ok (.sipush 1000, 3) := by decide +kernel
theorem dM_relief_37 : decode bM_relief 37 = .ok (.aload_n 0, 1) := by decide +kernel
theorem dM_relief_38 : decode bM_relief 38 = .ok (.iload_n 1, 1) := by decide +kernel
theorem dM_relief_39 : decode bM_relief 39 = .ok (.invokevirtual 121, 3) := by decide +kernel
theorem dM_relief_42 : decode bM_relief 42 = .ok (.iadd, 1) := by decide +kernel
theorem dM_relief_43 : decode bM_relief 43 = .ok (.ireturn, 1) := by decide +kernel
theorem dM_culprit_0 : decode bM_culprit 0 = .ok (.aload_n 0, 1) := by decide +kernel
theorem dM_culprit_1 : decode bM_culprit 1 = .ok (.invokevirtual 96, 3) := by decide +kernel
theorem dM_culprit_4 : decode bM_culprit 4 = .ok (.ifCond .ge 6, 3) := by decide +kernel
theorem dM_culprit_7 : decode bM_culprit 7 = .ok (.bipush (-6), 2) := by decide +kernel
theorem dM_culprit_9 : decode bM_culprit 9 = .ok (.ireturn, 1) := by decide +kernel
theorem dM_culprit_10 : decode bM_culprit 10 = .ok (.bipush (-6), 2) := by decide +kernel
theorem dM_culprit_12 : decode bM_culprit 12 = .ok (.istore_n 1, 1) := by decide +kernel
theorem dM_culprit_13 : decode bM_culprit 13 = .ok (.iconst 0, 1) := by decide +kernel
theorem dM_culprit_14 : decode bM_culprit 14 = .ok (.istore_n 2, 1) := by decide +kernel
theorem dM_culprit_15 : decode bM_culprit 15 = .ok (.iconst 0, 1) := by decide +kernel
theorem dM_culprit_16 : decode bM_culprit 16 = .ok (.istore_n 3, 1) := by decide +kernel
theorem dM_culprit_17 : decode bM_culprit 17 = .ok (.iload_n 3, 1) := by decide +kernel
theorem dM_culprit_18 : decode bM_culprit 18 = .ok (.aload_n 0, 1) := by decide +kernel
theorem dM_culprit_19 : decode bM_culprit 19 = .ok (.getfield 7, 3) := by decide +kernel
theorem dM_culprit_22 : decode bM_culprit 22 = .ok (.bipush 50, 2) := by decide +kernel
theorem dM_culprit_24 : decode bM_culprit 24 = .ok (.iaload, 1) := by decide +kernel
theorem dM_culprit_25 : decode bM_culprit 25 = .ok (.if_icmp .ge 54, 3) := by decide +kernel
theorem dM_culprit_28 : decode bM_culprit 28 = .ok (.aload_n 0, 1) := by decide +kernel
theorem dM_culprit_29 : decode bM_culprit 29 = .ok (.getfield 7, 3) := by decide +kernel
theorem dM_culprit_32 : decode bM_culprit 32 = .ok (.iload_n 3, 1) := by decide +kernel
theorem dM_culprit_33 : decode bM_culprit 33 = .ok (.iaload, 1) := by decide +kernel
theorem dM_culprit_34 : decode bM_culprit 34 = .ok (.ifCond .ne 7, 3) := by decide +kernel
theorem dM_culprit_37 : decode bM_culprit 37 = .ok (.iconst 0, 1) := by decide +kernel
theorem dM_culprit_38 : decode bM_culprit 38 = .ok (.goto 8, 3) := by decide +kernel
theorem dM_culprit_41 : decode bM_culprit 41 = .ok (.aload_n 0, 1) := by decide +kernel
theorem dM_culprit_42 : decode bM_culprit 42 = .ok (.iload_n 3, 1) := by decide +kernel
theorem dM_culprit_43 : decode bM_culprit 43 = .ok (.invokevirtual 121, 3) := by decide +kernel
theorem dM_culprit_46 : decode bM_culprit 46 = .ok (.istore 4, 2) := by decide +kernel
theorem dM_culprit_48 : decode bM_culprit 48 = .ok (.iload 4, 2) := by decide +kernel
theorem dM_culprit_50 : decode bM_culprit 50 = .ok (.iload_n 2, 1) := by decide +kernel
theorem dM_culprit_51 : decode bM_culprit 51 = .ok (.if_icmp .le 7, 3) := by decide +kernel
theorem dM_culprit_54 : decode bM_culprit 54 = .ok (.iload_n 3, 1) := by decide +kernel
theorem dM_culprit_55 : decode bM_culprit 55 = .ok (.goto 4, 3) := by decide +kernel
theorem dM_culprit_58 : decode bM_culprit 58 = .ok (.iload_n 1, 1) := by decide +kernel
theorem dM_culprit_59 : decode bM_culprit 59 = .ok (.istore_n 1, 1) := by decide +kernel
theorem dM_culprit_60 : decode bM_culprit 60 = .ok (.iload 4, 2) := by decide +kernel
theorem dM_culprit_62 : decode bM_culprit 62 = .ok (.iload_n 2, 1) := by decide +kernel
theorem dM_culprit_63 : decode bM_culprit 63 = .ok (.if_icmp .le 8, 3) := by decide +kernel
theorem dM_culprit_66 : decode bM_culprit 66 = .ok (.iload 4, 2) := by decide +kernel
theorem dM_culprit_68 : decode bM_culprit 68 = .ok (.goto 4, 3) := by decide +kernel
theorem dM_culprit_71 : decode bM_culprit 71 = .ok (.iload_n 2, 1) := by decide +kernel
theorem dM_culprit_72 : decode bM_culprit 72 = .ok (.istore_n 2, 1) := by decide +kernel
theorem dM_culprit_73 : decode bM_culprit 73 = .ok (.iinc 3 1, 3) := by decide +kernel
theorem dM_culprit_76 : decode bM_culprit 76 = .ok (.goto (-59), 3) := by decide +kernel
theorem dM_culprit_79 : decode bM_culprit 79 = .ok (.iload_n 1, 1) := by decide +kernel
theorem dM_culprit_80 : decode bM_culprit 80 = .ok (.ireturn, 1) := by decide +kernel
theorem dM_fits_0 : decode bM_fits 0 = .ok (.aload_n 0, 1) := by decide +kernel
theorem dM_fits_1 : decode bM_fits 1 = .ok (.getfield 7, 3) := by decide +kernel
theorem dM_fits_4 : decode bM_fits 4 = .ok (.bipush 49, 2) := by decide +kernel
theorem dM_fits_6 : decode bM_fits 6 = .ok (.iaload, 1) := by decide +kernel
theorem dM_fits_7 : decode bM_fits 7 = .ok (.istore_n 3, 1) := by decide +kernel
theorem dM_fits_8 : decode bM_fits 8 = .ok (.aload_n 0, 1) := by decide +kernel
theorem dM_fits_9 : decode bM_fits 9 = .ok (.getfield 7, 3) := by decide +kernel
theorem dM_fits_12 : decode bM_fits 12 = .ok (.bipush 49, 2) := by decide +kernel
theorem dM_fits_14 : decode bM_fits 14 = .ok (.iload_n 2, 1) := by decide +kernel
theorem dM_fits_15 : decode bM_fits 15 = .ok (.iastore, 1) := by decide +kernel
theorem dM_fits_16 : decode bM_fits 16 = .ok (.aload_n 0, 1) := by decide +kernel
theorem dM_fits_17 : decode bM_fits 17 = .ok (.invokevirtual 96, 3) := by decide +kernel
theorem dM_fits_20 : decode bM_fits 20 = .ok (.istore 4, 2) := by decide +kernel
theorem dM_fits_22 : decode bM_fits 22 = .ok (.aload_n 0, 1) := by decide +kernel
theorem dM_fits_23 : decode bM_fits 23 = .ok (.getfield 7, 3) := by decide +kernel
theorem dM_fits_26 : decode bM_fits 26 = .ok (.bipush 49, 2) := by decide +kernel
theorem dM_fits_28 : decode bM_fits 28 = .ok (.iload_n 3, 1) := by decide +kernel
theorem dM_fits_29 : decode bM_fits 29 = .ok (.iastore, 1) := by decide +kernel
theorem dM_fits_30 : decode bM_fits 30 = .ok (.iload 4, 2) := by decide +kernel
theorem dM_fits_32 : decode bM_fits 32 = .ok (.ifCond .lt 16, 3) := by decide +kernel
theorem dM_fits_35 : decode bM_fits 35 = .ok (.iload 4, 2) := by decide +kernel
theorem dM_fits_37 : decode bM_fits 37 = .ok (.ldc 82, 2) := by decide +kernel
theorem dM_fits_39 : decode bM_fits 39 = .ok (.idiv, 1) := by decide +kernel
theorem dM_fits_40 : decode bM_fits 40 = .ok (.iload_n 1, 1) := by decide +kernel
theorem dM_fits_41 : decode bM_fits 41 = .ok (.if_icmp .gt 7, 3) := by decide +kernel
theorem dM_fits_44 : decode bM_fits 44 = .ok (.iconst 1, 1) := by decide +kernel
theorem dM_fits_45 : decode bM_fits 45 = .ok (.goto 4, 3) := by decide +kernel
theorem dM_fits_48 : decode bM_fits 48 = .ok (.iconst 0, 1) := by decide +kernel
theorem dM_fits_49 : decode bM_fits 49 = .ok (.ireturn, 1) := by decide +kernel
theorem dM_fit_0 : decode bM_fit 0 = .ok (.iload_n 1, 1) := by decide +kernel
theorem dM_fit_1 : decode bM_fit 1 = .ok (.iconst 0, 1) := by decide +kernel
theorem dM_fit_2 : decode bM_fit 2 = .ok (.sipush 150, 3) := by decide +kernel
theorem dM_fit_5 : decode bM_fit 5 = .ok (.invokestatic 45, 3) := by decide +kernel
theorem dM_fit_8 : decode bM_fit 8 = .ok (.ifCond .ne 6, 3) := by decide +kernel
theorem dM_fit_11 : decode bM_fit 11 = .ok (.bipush (-2), 2) := by decide +kernel
theorem dM_fit_13 : decode bM_fit 13 = .ok (.ireturn, 1) := by decide +kernel
theorem dM_fit_14 : decode bM_fit 14 = .ok (.aload_n 0, 1) := by decide +kernel
theorem dM_fit_15 : decode bM_fit 15 = .ok (.iload_n 1, 1) := by decide +kernel
theorem dM_fit_16 : decode bM_fit 16 = .ok (.sipush 200, 3) := by decide +kernel
theorem dM_fit_19 : decode bM_fit 19 = .ok (.invokevirtual 124, 3) := by decide +kernel
theorem dM_fit_22 : decode bM_fit 22 = .ok (.ifCond .ne 6, 3) := by decide +kernel
theorem dM_fit_25 : decode bM_fit 25 = .ok (.bipush (-6), 2) := by decide +kernel
theorem dM_fit_27 : decode bM_fit 27 = .ok (.ireturn, 1) := by decide +kernel
theorem dM_fit_28 : decode bM_fit 28 = .ok (.bipush 12, 2) := by decide +kernel
theorem dM_fit_30 : decode bM_fit 30 = .ok (.istore_n 2, 1) := by decide +kernel
theorem dM_fit_31 : decode bM_fit 31 = .ok (.sipush 200, 3) := by decide +kernel
theorem dM_fit_34 : decode bM_fit 34 = .ok (.istore_n 3, 1) := by decide +kernel
theorem dM_fit_35 : decode bM_fit 35 = .ok (.iload_n 2, 1) := by decide +kernel
theorem dM_fit_36 : decode bM_fit 36 = .ok (.iload_n 3, 1) := by decide +kernel
theorem dM_fit_37 : decode bM_fit 37 = .ok (.if_icmp .ge 48, 3) := by decide +kernel
theorem dM_fit_40 : decode bM_fit 40 = .ok (.iload_n 2, 1) := by decide +kernel
theorem dM_fit_41 : decode bM_fit 41 = .ok (.iload_n 3, 1) := by decide +kernel
theorem dM_fit_42 : decode bM_fit 42 = .ok (.iadd, 1) := by decide +kernel
theorem dM_fit_43 : decode bM_fit 43 = .ok (.iconst 2, 1) := by decide +kernel
theorem dM_fit_44 : decode bM_fit 44 = .ok (.idiv, 1) := by decide +kernel
theorem dM_fit_45 : decode bM_fit 45 = .ok (.istore 4, 2) := by decide +kernel
theorem dM_fit_47 : decode bM_fit 47 = .ok (.aload_n 0, 1) := by decide +kernel
theorem dM_fit_48 : decode bM_fit 48 = .ok (.iload_n 1, 1) := by decide +kernel
theorem dM_fit_49 : decode bM_fit 49 = .ok (.iload 4, 2) := by decide +kernel
theorem dM_fit_51 : decode bM_fit 51 = .ok (.invokevirtual 124, 3) := by decide +kernel
theorem dM_fit_54 : decode bM_fit 54 = .ok (.istore 5, 2) := by decide +kernel
theorem dM_fit_56 : decode bM_fit 56 = .ok (.iload 5, 2) := by decide +kernel
theorem dM_fit_58 : decode bM_fit 58 = .ok (.ifCond .eq 8, 3) := by decide +kernel
theorem dM_fit_61 : decode bM_fit 61 = .ok (.iload 4, 2) := by decide +kernel
theorem dM_fit_63 : decode bM_fit 63 = .ok (.goto 4, 3) := by decide +kernel
theorem dM_fit_66 : decode bM_fit 66 = .ok (.iload_n 3, 1) := by decide +kernel
theorem dM_fit_67 : decode bM_fit 67 = .ok (.istore_n 3, 1) := by decide +kernel
theorem dM_fit_68 : decode bM_fit 68 = .ok (.iload 5, 2) := by decide +kernel
theorem dM_fit_70 : decode bM_fit 70 = .ok (.ifCond .eq 7, 3) := by decide +kernel
theorem dM_fit_73 : decode bM_fit 73 = .ok (.iload_n 2, 1) := by decide +kernel
theorem dM_fit_74 : decode bM_fit 74 = .ok (.goto 7, 3) := by decide +kernel
theorem dM_fit_77 : decode bM_fit 77 = .ok (.iload 4, 2) := by decide +kernel
theorem dM_fit_79 : decode bM_fit 79 = .ok (.iconst 1, 1) := by decide +kernel
theorem dM_fit_80 : decode bM_fit 80 = .ok (.iadd, 1) := by decide +kernel
theorem dM_fit_81 : decode bM_fit 81 = .ok (.istore_n 2, 1) := by decide +kernel
theorem dM_fit_82 : decode bM_fit 82 = .ok (.goto (-47), 3) := by decide +kernel
theorem dM_fit_85 : decode bM_fit 85 = .ok (.iload_n 2, 1) := by decide +kernel
theorem dM_fit_86 : decode bM_fit 86 = .ok (.ireturn, 1) := by decide +kernel
theorem dM_image_0 : decode bM_image 0 = .ok (.iload_n 1, 1) := by decide +kernel
theorem dM_image_1 : decode bM_image 1 = .ok (.iconst 0, 1) := by decide +kernel
theorem dM_image_2 : decode bM_image 2 = .ok (.iconst 1, 1) := by decide +kernel
theorem dM_image_3 : decode bM_image 3 = .ok (.invokestatic 45, 3) := by decide +kernel
theorem dM_image_6 : decode bM_image 6 = .ok (.ifCond .ne 6, 3) := by decide +kernel
theorem dM_image_9 : decode bM_image 9 = .ok (.bipush (-2), 2) := by decide +kernel
theorem dM_image_11 : decode bM_image 11 = .ok (.ireturn, 1) := by decide +kernel
theorem dM_image_12 : decode bM_image 12 = .ok (.iconst 0, 1) := by decide +kernel
theorem dM_image_13 : decode bM_image 13 = .ok (.istore_n 2, 1) := by decide +kernel
theorem dM_image_14 : decode bM_image 14 = .ok (.iload_n 2, 1) := by decide +kernel
theorem dM_image_15 : decode bM_image 15 = .ok (.bipush 51, 2) := by decide +kernel
theorem dM_image_17 : decode bM_image 17 = .ok (.if_icmp .ge 26, 3) := by decide +kernel
theorem dM_image_20 : decode bM_image 20 = .ok (.aload_n 0, 1) := by decide +kernel
theorem dM_image_21 : decode bM_image 21 = .ok (.getfield 13, 3) := by decide +kernel
theorem dM_image_24 : decode bM_image 24 = .ok (.bipush 51, 2) := by decide +kernel
theorem dM_image_26 : decode bM_image 26 = .ok (.iload_n 1, 1) := by decide +kernel
theorem dM_image_27 : decode bM_image 27 = .ok (.imul, 1) := by decide +kernel
theorem dM_image_28 : decode bM_image 28 = .ok (.iload_n 2, 1) := by decide +kernel
theorem dM_image_29 : decode bM_image 29 = .ok (.iadd, 1) := by decide +kernel
theorem dM_image_30 : decode bM_image 30 = .ok (.aload_n 0, 1) := by decide +kernel
theorem dM_image_31 : decode bM_image 31 = .ok (.getfield 7, 3) := by decide +kernel
theorem dM_image_34 : decode bM_image 34 = .ok (.iload_n 2, 1) := by decide +kernel
theorem dM_image_35 : decode bM_image 35 = .ok (.iaload, 1) := by decide +kernel
theorem dM_image_36 : decode bM_image 36 = .ok (.iastore, 1) := by decide +kernel
theorem dM_image_37 : decode bM_image 37 = .ok (.iinc 2 1, 3) := by decide +kernel
theorem dM_image_40 : decode bM_image 40 = .ok (.goto (-26), 3) := by decide +kernel
theorem dM_image_43 : decode bM_image 43 = .ok (.aload_n 0, 1) := by decide +kernel
theorem dM_image_44 : decode bM_image 44 = .ok (.getfield 16, 3) := by decide +kernel
theorem dM_image_47 : decode bM_image 47 = .ok (.iload_n 1, 1) := by decide +kernel
theorem dM_image_48 : decode bM_image 48 = .ok (.iconst 1, 1) := by decide +kernel
theorem dM_image_49 : decode bM_image 49 = .ok (.bastore, 1) := by decide +kernel
theorem dM_image_50 : decode bM_image 50 = .ok (.iconst 1, 1) := by decide +kernel
theorem dM_image_51 : decode bM_image 51 = .ok (.ireturn, 1) := by decide +kernel
theorem dM_restore_0 : decode bM_restore 0 = .ok (.iload_n 1, 1) := by decide +kernel
theorem dM_restore_1 : decode bM_restore 1 = .ok (.iconst 0, 1) := by decide +kernel
theorem dM_restore_2 : decode bM_restore 2 = .ok (.iconst 1, 1) := by decide +kernel
theorem dM_restore_3 : decode bM_restore 3 = .ok (.invokestatic 45, 3) := by decide +kernel
theorem dM_restore_6 : decode bM_restore 6 = .ok (.ifCond .ne 6, 3) := by decide +kernel
theorem dM_restore_9 : decode bM_restore 9 = .ok (.bipush (-2), 2) := by decide +kernel
theorem dM_restore_11 : decode bM_restore 11 = .ok (.ireturn, 1) := by decide +kernel
theorem dM_restore_12 : decode bM_restore 12 = .ok (.aload_n 0, 1) := by decide +kernel
theorem dM_restore_13 : decode bM_restore 13 = .ok (.getfield 16, 3) := by decide +kernel
theorem dM_restore_16 : decode bM_restore 16 = .ok (.iload_n 1, 1) := by decide +kernel
theorem dM_restore_17 : decode bM_restore 17 = .ok (.baload, 1) := by decide +kernel
theorem dM_restore_18 : decode bM_restore 18 = .ok (.ifCond .ne 6, 3) := by decide +kernel
theorem dM_restore_21 : decode bM_restore 21 = .ok (.bipush (-3), 2) := by decide +kernel
theorem dM_restore_23 : decode bM_restore 23 = .ok (.ireturn, 1) := by decide +kernel
theorem dM_restore_24 : decode bM_restore 24 = .ok (.iconst 0, 1) := by decide +kernel
theorem dM_restore_25 : decode bM_restore 25 = .ok (.istore_n 2, 1) := by decide +kernel
theorem dM_restore_26 : decode bM_restore 26 = .ok (.iload_n 2, 1) := by decide +kernel
theorem dM_restore_27 : decode bM_restore 27 = .ok (.bipush 51, 2) := by decide +kernel
theorem dM_restore_29 : decode bM_restore 29 = .ok (.if_icmp .ge 26, 3) := by decide +kernel
theorem dM_restore_32 : decode bM_restore 32 = .ok (.aload_n 0, 1) := by decide +kernel
theorem dM_restore_33 : decode bM_restore 33 = .ok (.getfield 7, 3) := by decide +kernel
theorem dM_restore_36 : decode bM_restore 36 = .ok (.iload_n 2, 1) := by decide +kernel
theorem dM_restore_37 : decode bM_restore 37 = .ok (.aload_n 0, 1) := by decide +kernel
theorem dM_restore_38 : decode bM_restore 38 = .ok (.getfield 13, 3) := by decide +kernel
theorem dM_restore_41 : decode bM_restore 41 = .ok (.bipush 51, 2) := by decide +kernel
theorem dM_restore_43 : decode bM_restore 43 = .ok (.iload_n 1, 1) := by decide +kernel
theorem dM_restore_44 : decode bM_restore 44 = .ok (.imul, 1) := by decide +kernel
theorem dM_restore_45 : decode bM_restore 45 = .ok (.iload_n 2, 1) := by decide +kernel
theorem dM_restore_46 : decode bM_restore 46 = .ok (.iadd, 1) := by decide +kernel
theorem dM_restore_47 : decode bM_restore 47 = .ok (.iaload, 1) := by decide +kernel
theorem dM_restore_48 : decode bM_restore 48 = .ok (.iastore, 1) := by decide +kernel
theorem dM_restore_49 : decode bM_restore 49 = .ok (.iinc 2 1, 3) := by decide +kernel
theorem dM_restore_52 : decode bM_restore 52 = .ok (.goto (-26), 3) := by decide +kernel
theorem dM_restore_55 : decode bM_restore 55 = .ok (.iconst 1, 1) := by decide +kernel
theorem dM_restore_56 : decode bM_restore 56 = .ok (.ireturn, 1) := by decide +kernel
theorem dM_ofKind_0 : decode bM_ofKind 0 = .ok (.iconst 0, 1) := by decide +kernel
theorem dM_ofKind_1 : decode bM_ofKind 1 = .ok (.istore_n 2, 1) := by decide +kernel
theorem dM_ofKind_2 : decode bM_ofKind 2 = .ok (.iconst 0, 1) := by decide +kernel
theorem dM_ofKind_3 : decode bM_ofKind 3 = .ok (.istore_n 3, 1) := by decide +kernel
theorem dM_ofKind_4 : decode bM_ofKind 4 = .ok (.iload_n 3, 1) := by decide +kernel
theorem dM_ofKind_5 : decode bM_ofKind 5 = .ok (.aload_n 0, 1) := by decide +kernel
theorem dM_ofKind_6 : decode bM_ofKind 6 = .ok (.getfield 7, 3) := by decide +kernel
theorem dM_ofKind_9 : decode bM_ofKind 9 = .ok (.bipush 50, 2) := by decide +kernel
theorem dM_ofKind_11 : decode bM_ofKind 11 = .ok (.iaload, 1) := by decide +kernel
theorem dM_ofKind_12 : decode bM_ofKind 12 = .ok (.if_icmp .ge 27, 3) := by decide +kernel
theorem dM_ofKind_15 : decode bM_ofKind 15 = .ok (.iload_n 2, 1) := by decide +kernel
theorem dM_ofKind_16 : decode bM_ofKind 16 = .ok (.aload_n 0, 1) := by decide +kernel
theorem dM_ofKind_17 : decode bM_ofKind 17 = .ok (.getfield 7, 3) := by decide +kernel
theorem dM_ofKind_20 : decode bM_ofKind 20 = .ok (.iload_n 3, 1) := by decide +kernel
theorem dM_ofKind_21 : decode bM_ofKind 21 = .ok (.iaload, 1) := by decide +kernel
theorem dM_ofKind_22 : decode bM_ofKind 22 = .ok (.iload_n 1, 1) := by decide +kernel
theorem dM_ofKind_23 : decode bM_ofKind 23 = .ok (.if_icmp .ne 7, 3) := by decide +kernel
theorem dM_ofKind_26 : decode bM_ofKind 26 = .ok (.iconst 1, 1) := by decide +kernel
theorem dM_ofKind_27 : decode bM_ofKind 27 = .ok (.goto 4, 3) := by decide +kernel
theorem dM_ofKind_30 : decode bM_ofKind 30 = .ok (.iconst 0, 1) := by decide +kernel
theorem dM_ofKind_31 : decode bM_ofKind 31 = .ok (.iadd, 1) := by decide +kernel
theorem dM_ofKind_32 : decode bM_ofKind 32 = .ok (.istore_n 2, 1) := by decide +kernel
theorem dM_ofKind_33 : decode bM_ofKind 33 = .ok (.iinc 3 1, 3) := by decide +kernel
theorem dM_ofKind_36 : decode bM_ofKind 36 = .ok (.goto (-32), 3) := by decide +kernel
theorem dM_ofKind_39 : decode bM_ofKind 39 = .ok (.iload_n 2, 1) := by decide +kernel
theorem dM_ofKind_40 : decode bM_ofKind 40 = .ok (.ireturn, 1) := by decide +kernel
theorem dM_count_0 : decode bM_count 0 = .ok (.iload_n 1, 1) := by decide +kernel
theorem dM_count_1 : decode bM_count 1 = .ok (.bipush 10, 2) := by decide +kernel
theorem dM_count_3 : decode bM_count 3 = .ok (.bipush 12, 2) := by decide +kernel
theorem dM_count_5 : decode bM_count 5 = .ok (.invokestatic 45, 3) := by decide +kernel
theorem dM_count_8 : decode bM_count 8 = .ok (.ifCond .eq 12, 3) := by decide +kernel
theorem dM_count_11 : decode bM_count 11 = .ok (.aload_n 0, 1) := by decide +kernel
theorem dM_count_12 : decode bM_count 12 = .ok (.iload_n 1, 1) := by decide +kernel
theorem dM_count_13 : decode bM_count 13 = .ok (.bipush 10, 2) := by decide +kernel
theorem dM_count_15 : decode bM_count 15 = .ok (.isub, 1) := by decide +kernel
theorem dM_count_16 : decode bM_count 16 = .ok (.invokevirtual 127, 3) := by decide +kernel
theorem dM_count_19 : decode bM_count 19 = .ok (.ireturn, 1) := by decide +kernel
theorem dM_count_20 : decode bM_count 20 = .ok (.aload_n 0, 1) := by decide +kernel
theorem dM_count_21 : decode bM_count 21 = .ok (.invokevirtual 83, 3) := by decide +kernel
theorem dM_count_24 : decode bM_count 24 = .ok (.iload_n 1, 1) := by decide +kernel
theorem dM_count_25 : decode bM_count 25 = .ok (.tableswitch 90 0 4 #[35, 43, 48, 48, 60], 35) := by decide +kernel
theorem dM_count_60 : decode bM_count 60 = .ok (.aload_n 0, 1) := by decide +kernel
theorem dM_count_61 : decode bM_count 61 = .ok (.getfield 7, 3) := by decide +kernel
theorem dM_count_64 : decode bM_count 64 = .ok (.bipush 50, 2) := by decide +kernel
theorem dM_count_66 : decode bM_count 66 = .ok (.iaload, 1) := by decide +kernel
theorem dM_count_67 : decode bM_count 67 = .ok (.ireturn, 1) := by decide +kernel
theorem dM_count_68 : decode bM_count 68 = .ok (.aload_n 0, 1) := by decide +kernel
theorem dM_count_69 : decode bM_count 69 = .ok (.getfield 64, 3) := by decide +kernel
theorem dM_count_72 : decode bM_count 72 = .ok (.ireturn, 1) := by decide +kernel
theorem dM_count_73 : decode bM_count 73 = .ok (.aload_n 0, 1) := by decide +kernel
theorem dM_count_74 : decode bM_count 74 = .ok (.getfield 7, 3) := by decide +kernel
theorem dM_count_77 : decode bM_count 77 = .ok (.bipush 48, 2) := by decide +kernel
theorem dM_count_79 : decode bM_count 79 = .ok (.iload_n 1, 1) := by decide +kernel
theorem dM_count_80 : decode bM_count 80 = .ok (.iadd, 1) := by decide +kernel
theorem dM_count_81 : decode bM_count 81 = .ok (.iconst 2, 1) := by decide +kernel
theorem dM_count_82 : decode bM_count 82 = .ok (.isub, 1) := by decide +kernel
theorem dM_count_83 : decode bM_count 83 = .ok (.iaload, 1) := by decide +kernel
theorem dM_count_84 : decode bM_count 84 = .ok (.ireturn, 1) := by decide +kernel
theorem dM_count_85 : decode bM_count 85 = .ok (.aload_n 0, 1) := by decide +kernel
theorem dM_count_86 : decode bM_count 86 = .ok (.getfield 16, 3) := by decide +kernel
theorem dM_count_89 : decode bM_count 89 = .ok (.iconst 0, 1) := by decide +kernel
theorem dM_count_90 : decode bM_count 90 = .ok (.baload, 1) := by decide +kernel
theorem dM_count_91 : decode bM_count 91 = .ok (.ifCond .eq 7, 3) := by decide +kernel
theorem dM_count_94 : decode bM_count 94 = .ok (.iconst 1, 1) := by decide +kernel
theorem dM_count_95 : decode bM_count 95 = .ok (.goto 4, 3) := by decide +kernel
theorem dM_count_98 : decode bM_count 98 = .ok (.iconst 0, 1) := by decide +kernel
theorem dM_count_99 : decode bM_count 99 = .ok (.aload_n 0, 1) := by decide +kernel
theorem dM_count_100 : decode bM_count 100 = .ok (.getfield 16, 3) := by decide +kernel
theorem dM_count_103 : decode bM_count 103 = .ok (.iconst 1, 1) := by decide +kernel
theorem dM_count_104 : decode bM_count 104 = .ok (.baload, 1) := by decide +kernel
theorem dM_count_105 : decode bM_count 105 = .ok (.ifCond .eq 7, 3) := by decide +kernel
theorem dM_count_108 : decode bM_count 108 = .ok (.iconst 2, 1) := by decide +kernel
theorem dM_count_109 : decode bM_count 109 = .ok (.goto 4, 3) := by decide +kernel
theorem dM_count_112 : decode bM_count 112 = .ok (.iconst 0, 1) := by decide +kernel
theorem dM_count_113 : decode bM_count 113 = .ok (.iadd, 1) := by decide +kernel
theorem dM_count_114 : decode bM_count 114 = .ok (.ireturn, 1) := by decide +kernel
theorem dM_count_115 : decode bM_count 115 = .ok (.bipush (-2), 2) := by decide +kernel
theorem dM_count_117 : decode bM_count 117 = .ok (.ireturn, 1) := by decide +kernel
