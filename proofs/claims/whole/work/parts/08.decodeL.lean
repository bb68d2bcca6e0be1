theorem dL_openColumn_0 : decode bL_openColumn 0 = .ok (.aload_n 0, 1) := by decide +kernel
theorem dL_openColumn_1 : decode bL_openColumn 1 = .ok (.dup, 1) := by decide +kernel
theorem dL_openColumn_2 : decode bL_openColumn 2 = .ok (.getfield 34, 3) := by decide +kernel
theorem dL_openColumn_5 : decode bL_openColumn 5 = .ok (.aload_n 0, 1) := by decide +kernel
theorem dL_openColumn_6 : decode bL_openColumn 6 = .ok (.getfield 41, 3) := by decide +kernel
theorem dL_openColumn_9 : decode bL_openColumn 9 = .ok (.ifCond .ne 7, 3) := by decide +kernel
theorem dL_openColumn_12 : decode bL_openColumn 12 = .ok (.iconst 0, 1) := by decide +kernel
theorem dL_openColumn_13 : decode bL_openColumn 13 = .ok (.goto 12, 3) := by decide +kernel
theorem dL_openColumn_16 : decode bL_openColumn 16 = .ok (.aload_n 0, 1) := by decide +kernel
theorem dL_openColumn_17 : decode bL_openColumn 17 = .ok (.getfield 47, 3) := by decide +kernel
theorem dL_openColumn_20 : decode bL_openColumn 20 = .ok (.getfield 74, 3) := by decide +kernel
theorem dL_openColumn_23 : decode bL_openColumn 23 = .ok (.iload_n 1, 1) := by decide +kernel
theorem dL_openColumn_24 : decode bL_openColumn 24 = .ok (.isub, 1) := by decide +kernel
theorem dL_openColumn_25 : decode bL_openColumn 25 = .ok (.iadd, 1) := by decide +kernel
theorem dL_openColumn_26 : decode bL_openColumn 26 = .ok (.putfield 34, 3) := by decide +kernel
theorem dL_openColumn_29 : decode bL_openColumn 29 = .ok (.aload_n 0, 1) := by decide +kernel
theorem dL_openColumn_30 : decode bL_openColumn 30 = .ok (.dup, 1) := by decide +kernel
theorem dL_openColumn_31 : decode bL_openColumn 31 = .ok (.getfield 41, 3) := by decide +kernel
theorem dL_openColumn_34 : decode bL_openColumn 34 = .ok (.iconst 1, 1) := by decide +kernel
theorem dL_openColumn_35 : decode bL_openColumn 35 = .ok (.iadd, 1) := by decide +kernel
theorem dL_openColumn_36 : decode bL_openColumn 36 = .ok (.putfield 41, 3) := by decide +kernel
theorem dL_openColumn_39 : decode bL_openColumn 39 = .ok (.return_, 1) := by decide +kernel
theorem dL_putThing_0 : decode bL_putThing 0 = .ok (.aload_n 0, 1) := by decide +kernel
theorem dL_putThing_1 : decode bL_putThing 1 = .ok (.getfield 24, 3) := by decide +kernel
theorem dL_putThing_4 : decode bL_putThing 4 = .ok (.sipush 144, 3) := by decide +kernel
theorem dL_putThing_7 : decode bL_putThing 7 = .ok (.if_icmp .lt 4, 3) := by decide +kernel
theorem dL_putThing_10 : decode bL_putThing 10 = .ok (.return_, 1) := by decide +kernel
theorem dL_putThing_11 : decode bL_putThing 11 = .ok (.aload_n 0, 1) := by decide +kernel
theorem dL_putThing_12 : decode bL_putThing 12 = .ok (.getfield 9, 3) := by decide +kernel
theorem dL_putThing_15 : decode bL_putThing 15 = .ok (.aload_n 0, 1) := by decide +kernel
theorem dL_putThing_16 : decode bL_putThing 16 = .ok (.getfield 24, 3) := by decide +kernel
theorem dL_putThing_19 : decode bL_putThing 19 = .ok (.iload_n 1, 1) := by decide +kernel
theorem dL_putThing_20 : decode bL_putThing 20 = .ok (.iastore, 1) := by decide +kernel
theorem dL_putThing_21 : decode bL_putThing 21 = .ok (.aload_n 0, 1) := by decide +kernel
theorem dL_putThing_22 : decode bL_putThing 22 = .ok (.getfield 15, 3) := by decide +kernel
theorem dL_putThing_25 : decode bL_putThing 25 = .ok (.aload_n 0, 1) := by decide +kernel
theorem dL_putThing_26 : decode bL_putThing 26 = .ok (.getfield 24, 3) := by decide +kernel
theorem dL_putThing_29 : decode bL_putThing 29 = .ok (.aload_n 0, 1) := by decide +kernel
theorem dL_putThing_30 : decode bL_putThing 30 = .ok (.getfield 41, 3) := by decide +kernel
theorem dL_putThing_33 : decode bL_putThing 33 = .ok (.iconst 1, 1) := by decide +kernel
theorem dL_putThing_34 : decode bL_putThing 34 = .ok (.isub, 1) := by decide +kernel
theorem dL_putThing_35 : decode bL_putThing 35 = .ok (.iastore, 1) := by decide +kernel
theorem dL_putThing_36 : decode bL_putThing 36 = .ok (.aload_n 0, 1) := by decide +kernel
theorem dL_putThing_37 : decode bL_putThing 37 = .ok (.getfield 18, 3) := by decide +kernel
theorem dL_putThing_40 : decode bL_putThing 40 = .ok (.aload_n 0, 1) := by decide +kernel
theorem dL_putThing_41 : decode bL_putThing 41 = .ok (.getfield 24, 3) := by decide +kernel
theorem dL_putThing_44 : decode bL_putThing 44 = .ok (.iload_n 2, 1) := by decide +kernel
theorem dL_putThing_45 : decode bL_putThing 45 = .ok (.iastore, 1) := by decide +kernel
theorem dL_putThing_46 : decode bL_putThing 46 = .ok (.aload_n 0, 1) := by decide +kernel
theorem dL_putThing_47 : decode bL_putThing 47 = .ok (.getfield 21, 3) := by decide +kernel
theorem dL_putThing_50 : decode bL_putThing 50 = .ok (.aload_n 0, 1) := by decide +kernel
theorem dL_putThing_51 : decode bL_putThing 51 = .ok (.getfield 24, 3) := by decide +kernel
theorem dL_putThing_54 : decode bL_putThing 54 = .ok (.iload_n 3, 1) := by decide +kernel
theorem dL_putThing_55 : decode bL_putThing 55 = .ok (.iastore, 1) := by decide +kernel
theorem dL_putThing_56 : decode bL_putThing 56 = .ok (.aload_n 0, 1) := by decide +kernel
theorem dL_putThing_57 : decode bL_putThing 57 = .ok (.dup, 1) := by decide +kernel
theorem dL_putThing_58 : decode bL_putThing 58 = .ok (.getfield 24, 3) := by decide +kernel
theorem dL_putThing_61 : decode bL_putThing 61 = .ok (.iconst 1, 1) := by decide +kernel
theorem dL_putThing_62 : decode bL_putThing 62 = .ok (.iadd, 1) := by decide +kernel
theorem dL_putThing_63 : decode bL_putThing 63 = .ok (.putfield 24, 3) := by decide +kernel
theorem dL_putThing_66 : decode bL_putThing 66 = .ok (.aload_n 0, 1) := by decide +kernel
theorem dL_putThing_67 : decode bL_putThing 67 = .ok (.getfield 47, 3) := by decide +kernel
theorem dL_putThing_70 : decode bL_putThing 70 = .ok (.iload_n 1, 1) := by decide +kernel
theorem dL_putThing_71 : decode bL_putThing 71 = .ok (.iload_n 2, 1) := by decide +kernel
theorem dL_putThing_72 : decode bL_putThing 72 = .ok (.invokevirtual 92, 3) := by decide +kernel
theorem dL_putThing_75 : decode bL_putThing 75 = .ok (.ifCond .eq 13, 3) := by decide +kernel
theorem dL_putThing_78 : decode bL_putThing 78 = .ok (.aload_n 0, 1) := by decide +kernel
theorem dL_putThing_79 : decode bL_putThing 79 = .ok (.dup, 1) := by decide +kernel
theorem dL_putThing_80 : decode bL_putThing 80 = .ok (.getfield 44, 3) := by decide +kernel
theorem dL_putThing_83 : decode bL_putThing 83 = .ok (.iconst 1, 1) := by decide +kernel
theorem dL_putThing_84 : decode bL_putThing 84 = .ok (.iadd, 1) := by decide +kernel
theorem dL_putThing_85 : decode bL_putThing 85 = .ok (.putfield 44, 3) := by decide +kernel
theorem dL_putThing_88 : decode bL_putThing 88 = .ok (.return_, 1) := by decide +kernel
theorem dL_putItem_0 : decode bL_putItem 0 = .ok (.iload_n 3, 1) := by decide +kernel
theorem dL_putItem_1 : decode bL_putItem 1 = .ok (.istore 5, 2) := by decide +kernel
theorem dL_putItem_3 : decode bL_putItem 3 = .ok (.aload_n 1, 1) := by decide +kernel
theorem dL_putItem_4 : decode bL_putItem 4 = .ok (.iload_n 2, 1) := by decide +kernel
theorem dL_putItem_5 : decode bL_putItem 5 = .ok (.iconst 0, 1) := by decide +kernel
theorem dL_putItem_6 : decode bL_putItem 6 = .ok (.iload 5, 2) := by decide +kernel
theorem dL_putItem_8 : decode bL_putItem 8 = .ok (.invokevirtual 77, 3) := by decide +kernel
theorem dL_putItem_11 : decode bL_putItem 11 = .ok (.istore 6, 2) := by decide +kernel
theorem dL_putItem_13 : decode bL_putItem 13 = .ok (.aload_n 0, 1) := by decide +kernel
theorem dL_putItem_14 : decode bL_putItem 14 = .ok (.dup, 1) := by decide +kernel
theorem dL_putItem_15 : decode bL_putItem 15 = .ok (.getfield 28, 3) := by decide +kernel
theorem dL_putItem_18 : decode bL_putItem 18 = .ok (.iload 4, 2) := by decide +kernel
theorem dL_putItem_20 : decode bL_putItem 20 = .ok (.iadd, 1) := by decide +kernel
theorem dL_putItem_21 : decode bL_putItem 21 = .ok (.putfield 28, 3) := by decide +kernel
theorem dL_putItem_24 : decode bL_putItem 24 = .ok (.iconst 0, 1) := by decide +kernel
theorem dL_putItem_25 : decode bL_putItem 25 = .ok (.istore 7, 2) := by decide +kernel
theorem dL_putItem_27 : decode bL_putItem 27 = .ok (.iload 7, 2) := by decide +kernel
theorem dL_putItem_29 : decode bL_putItem 29 = .ok (.aload_n 0, 1) := by decide +kernel
theorem dL_putItem_30 : decode bL_putItem 30 = .ok (.getfield 47, 3) := by decide +kernel
theorem dL_putItem_33 : decode bL_putItem 33 = .ok (.iload_n 2, 1) := by decide +kernel
theorem dL_putItem_34 : decode bL_putItem 34 = .ok (.invokevirtual 81, 3) := by decide +kernel
theorem dL_putItem_37 : decode bL_putItem 37 = .ok (.if_icmp .ge 77, 3) := by decide +kernel
theorem dL_putItem_40 : decode bL_putItem 40 = .ok (.iload 7, 2) := by decide +kernel
theorem dL_putItem_42 : decode bL_putItem 42 = .ok (.iload 6, 2) := by decide +kernel
theorem dL_putItem_44 : decode bL_putItem 44 = .ok (.if_icmp .ne 33, 3) := by decide +kernel
theorem dL_putItem_47 : decode bL_putItem 47 = .ok (.aload_n 0, 1) := by decide +kernel
theorem dL_putItem_48 : decode bL_putItem 48 = .ok (.iload 5, 2) := by decide +kernel
theorem dL_putItem_50 : decode bL_putItem 50 = .ok (.invokevirtual 62, 3) := by decide +kernel
theorem dL_putItem_53 : decode bL_putItem 53 = .ok (.aload_n 0, 1) := by decide +kernel
theorem dL_putItem_54 : decode bL_putItem 54 = .ok (.dup, 1) := by decide +kernel
theorem dL_putItem_55 : decode bL_putItem 55 = .ok (.getfield 31, 3) := by decide +kernel
theorem dL_putItem_58 : decode bL_putItem 58 = .ok (.iconst 1, 1) := by decide +kernel
theorem dL_putItem_59 : decode bL_putItem 59 = .ok (.iadd, 1) := by decide +kernel
theorem dL_putItem_60 : decode bL_putItem 60 = .ok (.putfield 31, 3) := by decide +kernel
theorem dL_putItem_63 : decode bL_putItem 63 = .ok (.iconst 0, 1) := by decide +kernel
theorem dL_putItem_64 : decode bL_putItem 64 = .ok (.istore 5, 2) := by decide +kernel
theorem dL_putItem_66 : decode bL_putItem 66 = .ok (.aload_n 1, 1) := by decide +kernel
theorem dL_putItem_67 : decode bL_putItem 67 = .ok (.iload_n 2, 1) := by decide +kernel
theorem dL_putItem_68 : decode bL_putItem 68 = .ok (.iload 7, 2) := by decide +kernel
theorem dL_putItem_70 : decode bL_putItem 70 = .ok (.iload 5, 2) := by decide +kernel
theorem dL_putItem_72 : decode bL_putItem 72 = .ok (.invokevirtual 77, 3) := by decide +kernel
theorem dL_putItem_75 : decode bL_putItem 75 = .ok (.istore 6, 2) := by decide +kernel
theorem dL_putItem_77 : decode bL_putItem 77 = .ok (.aload_n 0, 1) := by decide +kernel
theorem dL_putItem_78 : decode bL_putItem 78 = .ok (.iload_n 2, 1) := by decide +kernel
theorem dL_putItem_79 : decode bL_putItem 79 = .ok (.iload 5, 2) := by decide +kernel
theorem dL_putItem_81 : decode bL_putItem 81 = .ok (.iload 7, 2) := by decide +kernel
theorem dL_putItem_83 : decode bL_putItem 83 = .ok (.ifCond .ne 8, 3) := by decide +kernel
theorem dL_putItem_86 : decode bL_putItem 86 = .ok (.iload 4, 2) := by decide +kernel
theorem dL_putItem_88 : decode bL_putItem 88 = .ok (.goto 4, 3) := by decide +kernel
theorem dL_putItem_91 : decode bL_putItem 91 = .ok (.iconst 0, 1) := by decide +kernel
theorem dL_putItem_92 : decode bL_putItem 92 = .ok (.invokevirtual 85, 3) := by decide +kernel
theorem dL_putItem_95 : decode bL_putItem 95 = .ok (.iload 5, 2) := by decide +kernel
theorem dL_putItem_97 : decode bL_putItem 97 = .ok (.aload_n 0, 1) := by decide +kernel
theorem dL_putItem_98 : decode bL_putItem 98 = .ok (.getfield 47, 3) := by decide +kernel
theorem dL_putItem_101 : decode bL_putItem 101 = .ok (.iload_n 2, 1) := by decide +kernel
theorem dL_putItem_102 : decode bL_putItem 102 = .ok (.invokevirtual 89, 3) := by decide +kernel
theorem dL_putItem_105 : decode bL_putItem 105 = .ok (.iadd, 1) := by decide +kernel
theorem dL_putItem_106 : decode bL_putItem 106 = .ok (.istore 5, 2) := by decide +kernel
theorem dL_putItem_108 : decode bL_putItem 108 = .ok (.iinc 7 1, 3) := by decide +kernel
theorem dL_putItem_111 : decode bL_putItem 111 = .ok (.goto (-84), 3) := by decide +kernel
theorem dL_putItem_114 : decode bL_putItem 114 = .ok (.iload 5, 2) := by decide +kernel
theorem dL_putItem_116 : decode bL_putItem 116 = .ok (.ireturn, 1) := by decide +kernel
theorem dL_follow_0 : decode bL_follow 0 = .ok (.aload_n 0, 1) := by decide +kernel
theorem dL_follow_1 : decode bL_follow 1 = .ok (.iconst 0, 1) := by decide +kernel
theorem dL_follow_2 : decode bL_follow 2 = .ok (.putfield 24, 3) := by decide +kernel
theorem dL_follow_5 : decode bL_follow 5 = .ok (.aload_n 0, 1) := by decide +kernel
theorem dL_follow_6 : decode bL_follow 6 = .ok (.iconst 0, 1) := by decide +kernel
theorem dL_follow_7 : decode bL_follow 7 = .ok (.putfield 41, 3) := by decide +kernel
theorem dL_follow_10 : decode bL_follow 10 = .ok (.aload_n 0, 1) := by decide +kernel
theorem dL_follow_11 : decode bL_follow 11 = .ok (.iconst 0, 1) := by decide +kernel
theorem dL_follow_12 : decode bL_follow 12 = .ok (.putfield 44, 3) := by decide +kernel
theorem dL_follow_15 : decode bL_follow 15 = .ok (.aload_n 0, 1) := by decide +kernel
theorem dL_follow_16 : decode bL_follow 16 = .ok (.iconst 0, 1) := by decide +kernel
theorem dL_follow_17 : decode bL_follow 17 = .ok (.putfield 28, 3) := by decide +kernel
theorem dL_follow_20 : decode bL_follow 20 = .ok (.aload_n 0, 1) := by decide +kernel
theorem dL_follow_21 : decode bL_follow 21 = .ok (.iconst 0, 1) := by decide +kernel
theorem dL_follow_22 : decode bL_follow 22 = .ok (.putfield 31, 3) := by decide +kernel
theorem dL_follow_25 : decode bL_follow 25 = .ok (.aload_n 0, 1) := by decide +kernel
theorem dL_follow_26 : decode bL_follow 26 = .ok (.iconst 0, 1) := by decide +kernel
theorem dL_follow_27 : decode bL_follow 27 = .ok (.putfield 34, 3) := by decide +kernel
theorem dL_follow_30 : decode bL_follow 30 = .ok (.iconst 0, 1) := by decide +kernel
theorem dL_follow_31 : decode bL_follow 31 = .ok (.istore_n 2, 1) := by decide +kernel
theorem dL_follow_32 : decode bL_follow 32 = .ok (.iconst 0, 1) := by decide +kernel
theorem dL_follow_33 : decode bL_follow 33 = .ok (.istore_n 3, 1) := by decide +kernel
theorem dL_follow_34 : decode bL_follow 34 = .ok (.iload_n 3, 1) := by decide +kernel
theorem dL_follow_35 : decode bL_follow 35 = .ok (.aload_n 0, 1) := by decide +kernel
theorem dL_follow_36 : decode bL_follow 36 = .ok (.getfield 47, 3) := by decide +kernel
theorem dL_follow_39 : decode bL_follow 39 = .ok (.getfield 51, 3) := by decide +kernel
theorem dL_follow_42 : decode bL_follow 42 = .ok (.if_icmp .ge 56, 3) := by decide +kernel
theorem dL_follow_45 : decode bL_follow 45 = .ok (.aload_n 1, 1) := by decide +kernel
theorem dL_follow_46 : decode bL_follow 46 = .ok (.iload_n 3, 1) := by decide +kernel
theorem dL_follow_47 : decode bL_follow 47 = .ok (.iload_n 2, 1) := by decide +kernel
theorem dL_follow_48 : decode bL_follow 48 = .ok (.invokevirtual 56, 3) := by decide +kernel
theorem dL_follow_51 : decode bL_follow 51 = .ok (.ifCond .eq 20, 3) := by decide +kernel
theorem dL_follow_54 : decode bL_follow 54 = .ok (.aload_n 0, 1) := by decide +kernel
theorem dL_follow_55 : decode bL_follow 55 = .ok (.iload_n 2, 1) := by decide +kernel
theorem dL_follow_56 : decode bL_follow 56 = .ok (.invokevirtual 62, 3) := by decide +kernel
theorem dL_follow_59 : decode bL_follow 59 = .ok (.aload_n 0, 1) := by decide +kernel
theorem dL_follow_60 : decode bL_follow 60 = .ok (.aload_n 1, 1) := by decide +kernel
theorem dL_follow_61 : decode bL_follow 61 = .ok (.iload_n 3, 1) := by decide +kernel
theorem dL_follow_62 : decode bL_follow 62 = .ok (.iconst 0, 1) := by decide +kernel
theorem dL_follow_63 : decode bL_follow 63 = .ok (.iconst 0, 1) := by decide +kernel
theorem dL_follow_64 : decode bL_follow 64 = .ok (.invokevirtual 66, 3) := by decide +kernel
theorem dL_follow_67 : decode bL_follow 67 = .ok (.istore_n 2, 1) := by decide +kernel
theorem dL_follow_68 : decode bL_follow 68 = .ok (.goto 24, 3) := by decide +kernel
theorem dL_follow_71 : decode bL_follow 71 = .ok (.aload_n 1, 1) := by decide +kernel
theorem dL_follow_72 : decode bL_follow 72 = .ok (.iload_n 3, 1) := by decide +kernel
theorem dL_follow_73 : decode bL_follow 73 = .ok (.iload_n 2, 1) := by decide +kernel
theorem dL_follow_74 : decode bL_follow 74 = .ok (.invokevirtual 70, 3) := by decide +kernel
theorem dL_follow_77 : decode bL_follow 77 = .ok (.istore 4, 2) := by decide +kernel
theorem dL_follow_79 : decode bL_follow 79 = .ok (.aload_n 0, 1) := by decide +kernel
theorem dL_follow_80 : decode bL_follow 80 = .ok (.aload_n 1, 1) := by decide +kernel
theorem dL_follow_81 : decode bL_follow 81 = .ok (.iload_n 3, 1) := by decide +kernel
theorem dL_follow_82 : decode bL_follow 82 = .ok (.iload_n 2, 1) := by decide +kernel
theorem dL_follow_83 : decode bL_follow 83 = .ok (.iload 4, 2) := by decide +kernel
theorem dL_follow_85 : decode bL_follow 85 = .ok (.iadd, 1) := by decide +kernel
theorem dL_follow_86 : decode bL_follow 86 = .ok (.iload 4, 2) := by decide +kernel
theorem dL_follow_88 : decode bL_follow 88 = .ok (.invokevirtual 66, 3) := by decide +kernel
theorem dL_follow_91 : decode bL_follow 91 = .ok (.istore_n 2, 1) := by decide +kernel
theorem dL_follow_92 : decode bL_follow 92 = .ok (.iinc 3 1, 3) := by decide +kernel
theorem dL_follow_95 : decode bL_follow 95 = .ok (.goto (-61), 3) := by decide +kernel
theorem dL_follow_98 : decode bL_follow 98 = .ok (.aload_n 0, 1) := by decide +kernel
theorem dL_follow_99 : decode bL_follow 99 = .ok (.dup, 1) := by decide +kernel
theorem dL_follow_100 : decode bL_follow 100 = .ok (.getfield 34, 3) := by decide +kernel
theorem dL_follow_103 : decode bL_follow 103 = .ok (.aload_n 0, 1) := by decide +kernel
theorem dL_follow_104 : decode bL_follow 104 = .ok (.getfield 41, 3) := by decide +kernel
theorem dL_follow_107 : decode bL_follow 107 = .ok (.ifCond .ne 7, 3) := by decide +kernel
theorem dL_follow_110 : decode bL_follow 110 = .ok (.iconst 0, 1) := by decide +kernel
theorem dL_follow_111 : decode bL_follow 111 = .ok (.goto 12, 3) := by decide +kernel
theorem dL_follow_114 : decode bL_follow 114 = .ok (.aload_n 0, 1) := by decide +kernel
theorem dL_follow_115 : decode bL_follow 115 = .ok (.getfield 47, 3) := by decide +kernel
theorem dL_follow_118 : decode bL_follow 118 = .ok (.getfield 74, 3) := by decide +kernel
theorem dL_follow_121 : decode bL_follow 121 = .ok (.iload_n 2, 1) := by decide +kernel
theorem dL_follow_122 : decode bL_follow 122 = .ok (.isub, 1) := by decide +kernel
theorem dL_follow_123 : decode bL_follow 123 = .ok (.iadd, 1) := by decide +kernel
theorem dL_follow_124 : decode bL_follow 124 = .ok (.putfield 34, 3) := by decide +kernel
theorem dL_follow_127 : decode bL_follow 127 = .ok (.return_, 1) := by decide +kernel
theorem dL_total_0 : decode bL_total 0 = .ok (.iload_n 1, 1) := by decide +kernel
theorem dL_total_1 : decode bL_total 1 = .ok (.tableswitch 51 0 3 #[31, 36, 41, 46], 31) := by decide +kernel
theorem dL_total_32 : decode bL_total 32 = .ok (.aload_n 0, 1) := by decide +kernel
theorem dL_total_33 : decode bL_total 33 = .ok (.getfield 41, 3) := by decide +kernel
theorem dL_total_36 : decode bL_total 36 = .ok (.ireturn, 1) := by decide +kernel
theorem dL_total_37 : decode bL_total 37 = .ok (.aload_n 0, 1) := by decide +kernel
theorem dL_total_38 : decode bL_total 38 = .ok (.getfield 44, 3) := by decide +kernel
theorem dL_total_41 : decode bL_total 41 = .ok (.ireturn, 1) := by decide +kernel
theorem dL_total_42 : decode bL_total 42 = .ok (.aload_n 0, 1) := by decide +kernel
theorem dL_total_43 : decode bL_total 43 = .ok (.getfield 28, 3) := by decide +kernel
theorem dL_total_46 : decode bL_total 46 = .ok (.ireturn, 1) := by decide +kernel
theorem dL_total_47 : decode bL_total 47 = .ok (.aload_n 0, 1) := by decide +kernel
theorem dL_total_48 : decode bL_total 48 = .ok (.getfield 31, 3) := by decide +kernel
theorem dL_total_51 : decode bL_total 51 = .ok (.ireturn, 1) := by decide +kernel
theorem dL_total_52 : decode bL_total 52 = .ok (.aload_n 0, 1) := by decide +kernel
theorem dL_total_53 : decode bL_total 53 = .ok (.getfield 34, 3) := by decide +kernel
theorem dL_total_56 : decode bL_total 56 = .ok (.ireturn, 1) := by decide +kernel
theorem dL_ofThing_0 : decode bL_ofThing 0 = .ok (.iload_n 1, 1) := by decide +kernel
theorem dL_ofThing_1 : decode bL_ofThing 1 = .ok (.ifCond .lt 11, 3) := by decide +kernel
theorem dL_ofThing_4 : decode bL_ofThing 4 = .ok (.iload_n 1, 1) := by decide +kernel
theorem dL_ofThing_5 : decode bL_ofThing 5 = .ok (.aload_n 0, 1) := by decide +kernel
theorem dL_ofThing_6 : decode bL_ofThing 6 = .ok (.getfield 24, 3) := by decide +kernel
theorem dL_ofThing_9 : decode bL_ofThing 9 = .ok (.if_icmp .lt 6, 3) := by decide +kernel
theorem dL_ofThing_12 : decode bL_ofThing 12 = .ok (.bipush (-6), 2) := by decide +kernel
theorem dL_ofThing_14 : decode bL_ofThing 14 = .ok (.ireturn, 1) := by decide +kernel
theorem dL_ofThing_15 : decode bL_ofThing 15 = .ok (.iload_n 2, 1) := by decide +kernel
theorem dL_ofThing_16 : decode bL_ofThing 16 = .ok (.tableswitch 49 0 2 #[28, 35, 42], 28) := by decide +kernel
theorem dL_ofThing_44 : decode bL_ofThing 44 = .ok (.aload_n 0, 1) := by decide +kernel
theorem dL_ofThing_45 : decode bL_ofThing 45 = .ok (.getfield 15, 3) := by decide +kernel
theorem dL_ofThing_48 : decode bL_ofThing 48 = .ok (.iload_n 1, 1) := by decide +kernel
theorem dL_ofThing_49 : decode bL_ofThing 49 = .ok (.iaload, 1) := by decide +kernel
theorem dL_ofThing_50 : decode bL_ofThing 50 = .ok (.ireturn, 1) := by decide +kernel
theorem dL_ofThing_51 : decode bL_ofThing 51 = .ok (.aload_n 0, 1) := by decide +kernel
theorem dL_ofThing_52 : decode bL_ofThing 52 = .ok (.getfield 18, 3) := by decide +kernel
theorem dL_ofThing_55 : decode bL_ofThing 55 = .ok (.iload_n 1, 1) := by decide +kernel
theorem dL_ofThing_56 : decode bL_ofThing 56 = .ok (.iaload, 1) := by decide +kernel
theorem dL_ofThing_57 : decode bL_ofThing 57 = .ok (.ireturn, 1) := by decide +kernel
theorem dL_ofThing_58 : decode bL_ofThing 58 = .ok (.aload_n 0, 1) := by decide +kernel
theorem dL_ofThing_59 : decode bL_ofThing 59 = .ok (.getfield 21, 3) := by decide +kernel
theorem dL_ofThing_62 : decode bL_ofThing 62 = .ok (.iload_n 1, 1) := by decide +kernel
theorem dL_ofThing_63 : decode bL_ofThing 63 = .ok (.iaload, 1) := by decide +kernel
theorem dL_ofThing_64 : decode bL_ofThing 64 = .ok (.ireturn, 1) := by decide +kernel
theorem dL_ofThing_65 : decode bL_ofThing 65 = .ok (.aload_n 0, 1) := by decide +kernel
theorem dL_ofThing_66 : decode bL_ofThing 66 = .ok (.getfield 47, 3) := by decide +kernel
theorem dL_ofThing_69 : decode bL_ofThing 69 = .ok (.aload_n 0, 1) := by decide +kernel
theorem dL_ofThing_70 : decode bL_ofThing 70 = .ok (.getfield 18, 3) := by decide +kernel
theorem dL_ofThing_73 : decode bL_ofThing 73 = .ok (.iload_n 1, 1) := by decide +kernel
theorem dL_ofThing_74 : decode bL_ofThing 74 = .ok (.iaload, 1) := by decide +kernel
theorem dL_ofThing_75 : decode bL_ofThing 75 = .ok (.invokevirtual 95, 3) := by decide +kernel
theorem dL_ofThing_78 : decode bL_ofThing 78 = .ok (.ireturn, 1) := by decide +kernel
theorem dL_firstThing_0 : decode bL_firstThing 0 = .ok (.iconst 0, 1) := by decide +kernel
theorem dL_firstThing_1 : decode bL_firstThing 1 = .ok (.istore_n 2, 1) := by decide +kernel
theorem dL_firstThing_2 : decode bL_firstThing 2 = .ok (.iload_n 2, 1) := by decide +kernel
theorem dL_firstThing_3 : decode bL_firstThing 3 = .ok (.aload_n 0, 1) := by decide +kernel
theorem dL_firstThing_4 : decode bL_firstThing 4 = .ok (.getfield 24, 3) := by decide +kernel
theorem dL_firstThing_7 : decode bL_firstThing 7 = .ok (.if_icmp .ge 19, 3) := by decide +kernel
theorem dL_firstThing_10 : decode bL_firstThing 10 = .ok (.aload_n 0, 1) := by decide +kernel
theorem dL_firstThing_11 : decode bL_firstThing 11 = .ok (.getfield 15, 3) := by decide +kernel
theorem dL_firstThing_14 : decode bL_firstThing 14 = .ok (.iload_n 2, 1) := by decide +kernel
theorem dL_firstThing_15 : decode bL_firstThing 15 = .ok (.iaload, 1) := by decide +kernel
theorem dL_firstThing_16 : decode bL_firstThing 16 = .ok (.iload_n 1, 1) := by decide +kernel
theorem dL_firstThing_17 : decode bL_firstThing 17 = .ok (.if_icmp .ge 9, 3) := by decide +kernel
theorem dL_firstThing_20 : decode bL_firstThing 20 = .ok (.iinc 2 1, 3) := by decide +kernel
theorem dL_firstThing_23 : decode bL_firstThing 23 = .ok (.goto (-21), 3) := by decide +kernel
theorem dL_firstThing_26 : decode bL_firstThing 26 = .ok (.iload_n 2, 1) := by decide +kernel
theorem dL_firstThing_27 : decode bL_firstThing 27 = .ok (.ireturn, 1) := by decide +kernel
theorem dL_outAmong_0 : decode bL_outAmong 0 = .ok (.iconst 0, 1) := by decide +kernel
theorem dL_outAmong_1 : decode bL_outAmong 1 = .ok (.istore_n 3, 1) := by decide +kernel
theorem dL_outAmong_2 : decode bL_outAmong 2 = .ok (.iload_n 1, 1) := by decide +kernel
theorem dL_outAmong_3 : decode bL_outAmong 3 = .ok (.istore 4, 2) := by decide +kernel
theorem dL_outAmong_5 : decode bL_outAmong 5 = .ok (.iload 4, 2) := by decide +kernel
theorem dL_outAmong_7 : decode bL_outAmong 7 = .ok (.iload_n 2, 1) := by decide +kernel
theorem dL_outAmong_8 : decode bL_outAmong 8 = .ok (.if_icmp .gt 36, 3) := by decide +kernel
theorem dL_outAmong_11 : decode bL_outAmong 11 = .ok (.aload_n 0, 1) := by decide +kernel
theorem dL_outAmong_12 : decode bL_outAmong 12 = .ok (.getfield 47, 3) := by decide +kernel
theorem dL_outAmong_15 : decode bL_outAmong 15 = .ok (.aload_n 0, 1) := by decide +kernel
theorem dL_outAmong_16 : decode bL_outAmong 16 = .ok (.getfield 9, 3) := by decide +kernel
theorem dL_outAmong_19 : decode bL_outAmong 19 = .ok (.iload 4, 2) := by decide +kernel
theorem dL_outAmong_21 : decode bL_outAmong 21 = .ok (.iaload, 1) := by decide +kernel
theorem dL_outAmong_22 : decode bL_outAmong 22 = .ok (.aload_n 0, 1) := by decide +kernel
theorem dL_outAmong_23 : decode bL_outAmong 23 = .ok (.getfield 18, 3) := by decide +kernel
theorem dL_outAmong_26 : decode bL_outAmong 26 = .ok (.iload 4, 2) := by decide +kernel
theorem dL_outAmong_28 : decode bL_outAmong 28 = .ok (.iaload, 1) := by decide +kernel
theorem dL_outAmong_29 : decode bL_outAmong 29 = .ok (.invokevirtual 92, 3) := by decide +kernel
theorem dL_outAmong_32 : decode bL_outAmong 32 = .ok (.ifCond .eq 6, 3) := by decide +kernel
theorem dL_outAmong_35 : decode bL_outAmong 35 = .ok (.iinc 3 1, 3) := by decide +kernel
theorem dL_outAmong_38 : decode bL_outAmong 38 = .ok (.iinc 4 1, 3) := by decide +kernel
theorem dL_outAmong_41 : decode bL_outAmong 41 = .ok (.goto (-36), 3) := by decide +kernel
theorem dL_outAmong_44 : decode bL_outAmong 44 = .ok (.iload_n 3, 1) := by decide +kernel
theorem dL_outAmong_45 : decode bL_outAmong 45 = .ok (.ireturn, 1) := by decide +kernel
theorem dL_ofColumn_0 : decode bL_ofColumn 0 = .ok (.aload_n 0, 1) := by decide +kernel
theorem dL_ofColumn_1 : decode bL_ofColumn 1 = .ok (.iload_n 1, 1) := by decide +kernel
theorem dL_ofColumn_2 : decode bL_ofColumn 2 = .ok (.invokevirtual 98, 3) := by decide +kernel
theorem dL_ofColumn_5 : decode bL_ofColumn 5 = .ok (.istore_n 3, 1) := by decide +kernel
theorem dL_ofColumn_6 : decode bL_ofColumn 6 = .ok (.aload_n 0, 1) := by decide +kernel
theorem dL_ofColumn_7 : decode bL_ofColumn 7 = .ok (.iload_n 1, 1) := by decide +kernel
theorem dL_ofColumn_8 : decode bL_ofColumn 8 = .ok (.iconst 1, 1) := by decide +kernel
theorem dL_ofColumn_9 : decode bL_ofColumn 9 = .ok (.iadd, 1) := by decide +kernel
theorem dL_ofColumn_10 : decode bL_ofColumn 10 = .ok (.invokevirtual 98, 3) := by decide +kernel
theorem dL_ofColumn_13 : decode bL_ofColumn 13 = .ok (.iconst 1, 1) := by decide +kernel
theorem dL_ofColumn_14 : decode bL_ofColumn 14 = .ok (.isub, 1) := by decide +kernel
theorem dL_ofColumn_15 : decode bL_ofColumn 15 = .ok (.istore 4, 2) := by decide +kernel
theorem dL_ofColumn_17 : decode bL_ofColumn 17 = .ok (.iload_n 3, 1) := by decide +kernel
theorem dL_ofColumn_18 : decode bL_ofColumn 18 = .ok (.ifCond .lt 9, 3) := by decide +kernel
theorem dL_ofColumn_21 : decode bL_ofColumn 21 = .ok (.iload 4, 2) := by decide +kernel
theorem dL_ofColumn_23 : decode bL_ofColumn 23 = .ok (.iload_n 3, 1) := by decide +kernel
theorem dL_ofColumn_24 : decode bL_ofColumn 24 = .ok (.if_icmp .ge 6, 3) := by decide +kernel
theorem dL_ofColumn_27 : decode bL_ofColumn 27 = .ok (.bipush (-6), 2) := by decide +kernel
theorem dL_ofColumn_29 : decode bL_ofColumn 29 = .ok (.ireturn, 1) := by decide +kernel
theorem dL_ofColumn_30 : decode bL_ofColumn 30 = .ok (.iload_n 2, 1) := by decide +kernel
theorem dL_ofColumn_31 : decode bL_ofColumn 31 = .ok (.tableswitch 74 0 3 #[29, 36, 59, 67], 29) := by decide +kernel
theorem dL_ofColumn_60 : decode bL_ofColumn 60 = .ok (.iload 4, 2) := by decide +kernel
theorem dL_ofColumn_62 : decode bL_ofColumn 62 = .ok (.iload_n 3, 1) := by decide +kernel
theorem dL_ofColumn_63 : decode bL_ofColumn 63 = .ok (.isub, 1) := by decide +kernel
theorem dL_ofColumn_64 : decode bL_ofColumn 64 = .ok (.iconst 1, 1) := by decide +kernel
theorem dL_ofColumn_65 : decode bL_ofColumn 65 = .ok (.iadd, 1) := by decide +kernel
theorem dL_ofColumn_66 : decode bL_ofColumn 66 = .ok (.ireturn, 1) := by decide +kernel
theorem dL_ofColumn_67 : decode bL_ofColumn 67 = .ok (.aload_n 0, 1) := by decide +kernel
theorem dL_ofColumn_68 : decode bL_ofColumn 68 = .ok (.getfield 18, 3) := by decide +kernel
theorem dL_ofColumn_71 : decode bL_ofColumn 71 = .ok (.iload 4, 2) := by decide +kernel
theorem dL_ofColumn_73 : decode bL_ofColumn 73 = .ok (.iaload, 1) := by decide +kernel
theorem dL_ofColumn_74 : decode bL_ofColumn 74 = .ok (.aload_n 0, 1) := by decide +kernel
theorem dL_ofColumn_75 : decode bL_ofColumn 75 = .ok (.getfield 47, 3) := by decide +kernel
theorem dL_ofColumn_78 : decode bL_ofColumn 78 = .ok (.aload_n 0, 1) := by decide +kernel
theorem dL_ofColumn_79 : decode bL_ofColumn 79 = .ok (.getfield 9, 3) := by decide +kernel
theorem dL_ofColumn_82 : decode bL_ofColumn 82 = .ok (.iload 4, 2) := by decide +kernel
theorem dL_ofColumn_84 : decode bL_ofColumn 84 = .ok (.iaload, 1) := by decide +kernel
theorem dL_ofColumn_85 : decode bL_ofColumn 85 = .ok (.invokevirtual 89, 3) := by decide +kernel
theorem dL_ofColumn_88 : decode bL_ofColumn 88 = .ok (.iadd, 1) := by decide +kernel
theorem dL_ofColumn_89 : decode bL_ofColumn 89 = .ok (.ireturn, 1) := by decide +kernel
theorem dL_ofColumn_90 : decode bL_ofColumn 90 = .ok (.aload_n 0, 1) := by decide +kernel
theorem dL_ofColumn_91 : decode bL_ofColumn 91 = .ok (.iload_n 3, 1) := by decide +kernel
theorem dL_ofColumn_92 : decode bL_ofColumn 92 = .ok (.iload 4, 2) := by decide +kernel
theorem dL_ofColumn_94 : decode bL_ofColumn 94 = .ok (.invokevirtual 101, 3) := by decide +kernel
theorem dL_ofColumn_97 : decode bL_ofColumn 97 = .ok (.ireturn, 1) := by decide +kernel
theorem dL_ofColumn_98 : decode bL_ofColumn 98 = .ok (.aload_n 0, 1) := by decide +kernel
theorem dL_ofColumn_99 : decode bL_ofColumn 99 = .ok (.getfield 9, 3) := by decide +kernel
theorem dL_ofColumn_102 : decode bL_ofColumn 102 = .ok (.iload_n 3, 1) := by decide +kernel
theorem dL_ofColumn_103 : decode bL_ofColumn 103 = .ok (.iaload, 1) := by decide +kernel
theorem dL_ofColumn_104 : decode bL_ofColumn 104 = .ok (.ireturn, 1) := by decide +kernel
theorem dL_ofColumn_105 : decode bL_ofColumn 105 = .ok (.aload_n 0, 1) := by decide +kernel
theorem dL_ofColumn_106 : decode bL_ofColumn 106 = .ok (.getfield 9, 3) := by decide +kernel
theorem dL_ofColumn_109 : decode bL_ofColumn 109 = .ok (.iload 4, 2) := by decide +kernel
theorem dL_ofColumn_111 : decode bL_ofColumn 111 = .ok (.iaload, 1) := by decide +kernel
theorem dL_ofColumn_112 : decode bL_ofColumn 112 = .ok (.ireturn, 1) := by decide +kernel
theorem dL_isLine_0 : decode bL_isLine 0 = .ok (.aload_n 0, 1) := by decide +kernel
theorem dL_isLine_1 : decode bL_isLine 1 = .ok (.getfield 47, 3) := by decide +kernel
theorem dL_isLine_4 : decode bL_isLine 4 = .ok (.getfield 108, 3) := by decide +kernel
theorem dL_isLine_7 : decode bL_isLine 7 = .ok (.aload_n 0, 1) := by decide +kernel
theorem dL_isLine_8 : decode bL_isLine 8 = .ok (.getfield 9, 3) := by decide +kernel
theorem dL_isLine_11 : decode bL_isLine 11 = .ok (.iload_n 1, 1) := by decide +kernel
theorem dL_isLine_12 : decode bL_isLine 12 = .ok (.iaload, 1) := by decide +kernel
theorem dL_isLine_13 : decode bL_isLine 13 = .ok (.iaload, 1) := by decide +kernel
theorem dL_isLine_14 : decode bL_isLine 14 = .ok (.ifCond .ne 7, 3) := by decide +kernel
theorem dL_isLine_17 : decode bL_isLine 17 = .ok (.iconst 1, 1) := by decide +kernel
theorem dL_isLine_18 : decode bL_isLine 18 = .ok (.goto 4, 3) := by decide +kernel
theorem dL_isLine_21 : decode bL_isLine 21 = .ok (.iconst 0, 1) := by decide +kernel
theorem dL_isLine_22 : decode bL_isLine 22 = .ok (.ireturn, 1) := by decide +kernel
theorem dL_meetings_0 : decode bL_meetings 0 = .ok (.aload_n 0, 1) := by decide +kernel
theorem dL_meetings_1 : decode bL_meetings 1 = .ok (.iload_n 1, 1) := by decide +kernel
theorem dL_meetings_2 : decode bL_meetings 2 = .ok (.invokevirtual 98, 3) := by decide +kernel
theorem dL_meetings_5 : decode bL_meetings 5 = .ok (.istore_n 2, 1) := by decide +kernel
theorem dL_meetings_6 : decode bL_meetings 6 = .ok (.aload_n 0, 1) := by decide +kernel
theorem dL_meetings_7 : decode bL_meetings 7 = .ok (.iload_n 1, 1) := by decide +kernel
theorem dL_meetings_8 : decode bL_meetings 8 = .ok (.iconst 1, 1) := by decide +kernel
theorem dL_meetings_9 : decode bL_meetings 9 = .ok (.iadd, 1) := by decide +kernel
theorem dL_meetings_10 : decode bL_meetings 10 = .ok (.invokevirtual 98, 3) := by decide +kernel
theorem dL_meetings_13 : decode bL_meetings 13 = .ok (.istore_n 3, 1) := by decide +kernel
theorem dL_meetings_14 : decode bL_meetings 14 = .ok (.iload_n 3, 1) := by decide +kernel
theorem dL_meetings_15 : decode bL_meetings 15 = .ok (.istore 4, 2) := by decide +kernel
theorem dL_meetings_17 : decode bL_meetings 17 = .ok (.iconst 0, 1) := by decide +kernel
theorem dL_meetings_18 : decode bL_meetings 18 = .ok (.istore 5, 2) := by decide +kernel
theorem dL_meetings_20 : decode bL_meetings 20 = .ok (.iload_n 2, 1) := by decide +kernel
theorem dL_meetings_21 : decode bL_meetings 21 = .ok (.iload 4, 2) := by decide +kernel
theorem dL_meetings_23 : decode bL_meetings 23 = .ok (.if_icmp .ge 79, 3) := by decide +kernel
theorem dL_meetings_26 : decode bL_meetings 26 = .ok (.iload_n 3, 1) := by decide +kernel
theorem dL_meetings_27 : decode bL_meetings 27 = .ok (.aload_n 0, 1) := by decide +kernel
theorem dL_meetings_28 : decode bL_meetings 28 = .ok (.getfield 24, 3) := by decide +kernel
theorem dL_meetings_31 : decode bL_meetings 31 = .ok (.if_icmp .ge 71, 3) := by decide +kernel
theorem dL_meetings_34 : decode bL_meetings 34 = .ok (.aload_n 0, 1) := by decide +kernel
theorem dL_meetings_35 : decode bL_meetings 35 = .ok (.getfield 15, 3) := by decide +kernel
theorem dL_meetings_38 : decode bL_meetings 38 = .ok (.iload_n 3, 1) := by decide +kernel
theorem dL_meetings_39 : decode bL_meetings 39 = .ok (.iaload, 1) := by decide +kernel
theorem dL_meetings_40 : decode bL_meetings 40 = .ok (.iload_n 1, 1) := by decide +kernel
theorem dL_meetings_41 : decode bL_meetings 41 = .ok (.iconst 1, 1) := by decide +kernel
theorem dL_meetings_42 : decode bL_meetings 42 = .ok (.iadd, 1) := by decide +kernel
theorem dL_meetings_43 : decode bL_meetings 43 = .ok (.if_icmp .ne 59, 3) := by decide +kernel
theorem dL_meetings_46 : decode bL_meetings 46 = .ok (.aload_n 0, 1) := by decide +kernel
theorem dL_meetings_47 : decode bL_meetings 47 = .ok (.getfield 18, 3) := by decide +kernel
theorem dL_meetings_50 : decode bL_meetings 50 = .ok (.iload_n 2, 1) := by decide +kernel
theorem dL_meetings_51 : decode bL_meetings 51 = .ok (.iaload, 1) := by decide +kernel
theorem dL_meetings_52 : decode bL_meetings 52 = .ok (.aload_n 0, 1) := by decide +kernel
theorem dL_meetings_53 : decode bL_meetings 53 = .ok (.getfield 18, 3) := by decide +kernel
theorem dL_meetings_56 : decode bL_meetings 56 = .ok (.iload_n 3, 1) := by decide +kernel
theorem dL_meetings_57 : decode bL_meetings 57 = .ok (.iaload, 1) := by decide +kernel
theorem dL_meetings_58 : decode bL_meetings 58 = .ok (.isub, 1) := by decide +kernel
theorem dL_meetings_59 : decode bL_meetings 59 = .ok (.istore 6, 2) := by decide +kernel
theorem dL_meetings_61 : decode bL_meetings 61 = .ok (.iload 6, 2) := by decide +kernel
theorem dL_meetings_63 : decode bL_meetings 63 = .ok (.ifCond .ne 22, 3) := by decide +kernel
theorem dL_meetings_66 : decode bL_meetings 66 = .ok (.aload_n 0, 1) := by decide +kernel
theorem dL_meetings_67 : decode bL_meetings 67 = .ok (.iload_n 2, 1) := by decide +kernel
theorem dL_meetings_68 : decode bL_meetings 68 = .ok (.invokevirtual 104, 3) := by decide +kernel
theorem dL_meetings_71 : decode bL_meetings 71 = .ok (.ifCond .eq 14, 3) := by decide +kernel
theorem dL_meetings_74 : decode bL_meetings 74 = .ok (.aload_n 0, 1) := by decide +kernel
theorem dL_meetings_75 : decode bL_meetings 75 = .ok (.iload_n 3, 1) := by decide +kernel
theorem dL_meetings_76 : decode bL_meetings 76 = .ok (.invokevirtual 104, 3) := by decide +kernel
theorem dL_meetings_79 : decode bL_meetings 79 = .ok (.ifCond .eq 6, 3) := by decide +kernel
theorem dL_meetings_82 : decode bL_meetings 82 = .ok (.iinc 5 1, 3) := by decide +kernel
theorem dL_meetings_85 : decode bL_meetings 85 = .ok (.iload 6, 2) := by decide +kernel
theorem dL_meetings_87 : decode bL_meetings 87 = .ok (.ifCond .gt 9, 3) := by decide +kernel
theorem dL_meetings_90 : decode bL_meetings 90 = .ok (.iinc 2 1, 3) := by decide +kernel
theorem dL_meetings_93 : decode bL_meetings 93 = .ok (.goto 6, 3) := by decide +kernel
theorem dL_meetings_96 : decode bL_meetings 96 = .ok (.iinc 3 1, 3) := by decide +kernel
theorem dL_meetings_99 : decode bL_meetings 99 = .ok (.goto (-79), 3) := by decide +kernel
theorem dL_meetings_102 : decode bL_meetings 102 = .ok (.iload 5, 2) := by decide +kernel
theorem dL_meetings_104 : decode bL_meetings 104 = .ok (.ireturn, 1) := by decide +kernel
