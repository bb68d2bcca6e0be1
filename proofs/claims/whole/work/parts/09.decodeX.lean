theorem dX_sizeFits_0 : decode bX_sizeFits 0 = .ok (.iload_n 1, 1) := by decide +kernel
theorem dX_sizeFits_1 : decode bX_sizeFits 1 = .ok (.iconst 1, 1) := by decide +kernel
theorem dX_sizeFits_2 : decode bX_sizeFits 2 = .ok (.if_icmp .lt 22, 3) := by decide +kernel
theorem dX_sizeFits_5 : decode bX_sizeFits 5 = .ok (.iload_n 1, 1) := by decide +kernel
theorem dX_sizeFits_6 : decode bX_sizeFits 6 = .ok (.iload_n 0, 1) := by decide +kernel
theorem dX_sizeFits_7 : decode bX_sizeFits 7 = .ok (.ifCond .ne 8, 3) := by decide +kernel
theorem dX_sizeFits_10 : decode bX_sizeFits 10 = .ok (.bipush 12, 2) := by decide +kernel
theorem dX_sizeFits_12 : decode bX_sizeFits 12 = .ok (.goto 5, 3) := by decide +kernel
theorem dX_sizeFits_15 : decode bX_sizeFits 15 = .ok (.bipush 80, 2) := by decide +kernel
theorem dX_sizeFits_17 : decode bX_sizeFits 17 = .ok (.if_icmp .gt 7, 3) := by decide +kernel
theorem dX_sizeFits_20 : decode bX_sizeFits 20 = .ok (.iconst 1, 1) := by decide +kernel
theorem dX_sizeFits_21 : decode bX_sizeFits 21 = .ok (.goto 4, 3) := by decide +kernel
theorem dX_sizeFits_24 : decode bX_sizeFits 24 = .ok (.iconst 0, 1) := by decide +kernel
theorem dX_sizeFits_25 : decode bX_sizeFits 25 = .ok (.ireturn, 1) := by decide +kernel
theorem dX_boundsFit_0 : decode bX_boundsFit 0 = .ok (.iload_n 0, 1) := by decide +kernel
theorem dX_boundsFit_1 : decode bX_boundsFit 1 = .ok (.ifCond .lt 18, 3) := by decide +kernel
theorem dX_boundsFit_4 : decode bX_boundsFit 4 = .ok (.iload_n 0, 1) := by decide +kernel
theorem dX_boundsFit_5 : decode bX_boundsFit 5 = .ok (.iload_n 1, 1) := by decide +kernel
theorem dX_boundsFit_6 : decode bX_boundsFit 6 = .ok (.if_icmp .gt 13, 3) := by decide +kernel
theorem dX_boundsFit_9 : decode bX_boundsFit 9 = .ok (.iload_n 1, 1) := by decide +kernel
theorem dX_boundsFit_10 : decode bX_boundsFit 10 = .ok (.bipush 30, 2) := by decide +kernel
theorem dX_boundsFit_12 : decode bX_boundsFit 12 = .ok (.if_icmp .gt 7, 3) := by decide +kernel
theorem dX_boundsFit_15 : decode bX_boundsFit 15 = .ok (.iconst 1, 1) := by decide +kernel
theorem dX_boundsFit_16 : decode bX_boundsFit 16 = .ok (.goto 4, 3) := by decide +kernel
theorem dX_boundsFit_19 : decode bX_boundsFit 19 = .ok (.iconst 0, 1) := by decide +kernel
theorem dX_boundsFit_20 : decode bX_boundsFit 20 = .ok (.ireturn, 1) := by decide +kernel
theorem dX_add_0 : decode bX_add 0 = .ok (.iload_n 1, 1) := by decide +kernel
theorem dX_add_1 : decode bX_add 1 = .ok (.ifCond .lt 16, 3) := by decide +kernel
theorem dX_add_4 : decode bX_add 4 = .ok (.iload_n 1, 1) := by decide +kernel
theorem dX_add_5 : decode bX_add 5 = .ok (.iconst 2, 1) := by decide +kernel
theorem dX_add_6 : decode bX_add 6 = .ok (.if_icmp .gt 11, 3) := by decide +kernel
theorem dX_add_9 : decode bX_add 9 = .ok (.iload_n 1, 1) := by decide +kernel
theorem dX_add_10 : decode bX_add 10 = .ok (.iload_n 2, 1) := by decide +kernel
theorem dX_add_11 : decode bX_add 11 = .ok (.invokestatic 44, 3) := by decide +kernel
theorem dX_add_14 : decode bX_add 14 = .ok (.ifCond .ne 6, 3) := by decide +kernel
theorem dX_add_17 : decode bX_add 17 = .ok (.bipush (-2), 2) := by decide +kernel
theorem dX_add_19 : decode bX_add 19 = .ok (.ireturn, 1) := by decide +kernel
theorem dX_add_20 : decode bX_add 20 = .ok (.iload_n 1, 1) := by decide +kernel
theorem dX_add_21 : decode bX_add 21 = .ok (.ifCond .eq 15, 3) := by decide +kernel
theorem dX_add_24 : decode bX_add 24 = .ok (.iload_n 3, 1) := by decide +kernel
theorem dX_add_25 : decode bX_add 25 = .ok (.iload 4, 2) := by decide +kernel
theorem dX_add_27 : decode bX_add 27 = .ok (.invokestatic 48, 3) := by decide +kernel
theorem dX_add_30 : decode bX_add 30 = .ok (.ifCond .ne 6, 3) := by decide +kernel
theorem dX_add_33 : decode bX_add 33 = .ok (.bipush (-2), 2) := by decide +kernel
theorem dX_add_35 : decode bX_add 35 = .ok (.ireturn, 1) := by decide +kernel
theorem dX_add_36 : decode bX_add 36 = .ok (.aload_n 0, 1) := by decide +kernel
theorem dX_add_37 : decode bX_add 37 = .ok (.getfield 12, 3) := by decide +kernel
theorem dX_add_40 : decode bX_add 40 = .ok (.getfield 51, 3) := by decide +kernel
theorem dX_add_43 : decode bX_add 43 = .ok (.bipush 12, 2) := by decide +kernel
theorem dX_add_45 : decode bX_add 45 = .ok (.if_icmp .lt 6, 3) := by decide +kernel
theorem dX_add_48 : decode bX_add 48 = .ok (.bipush (-4), 2) := by decide +kernel
theorem dX_add_50 : decode bX_add 50 = .ok (.ireturn, 1) := by decide +kernel
theorem dX_add_51 : decode bX_add 51 = .ok (.aload_n 0, 1) := by decide +kernel
theorem dX_add_52 : decode bX_add 52 = .ok (.iconst 0, 1) := by decide +kernel
theorem dX_add_53 : decode bX_add 53 = .ok (.putfield 40, 3) := by decide +kernel
theorem dX_add_56 : decode bX_add 56 = .ok (.aload_n 0, 1) := by decide +kernel
theorem dX_add_57 : decode bX_add 57 = .ok (.getfield 12, 3) := by decide +kernel
theorem dX_add_60 : decode bX_add 60 = .ok (.iload_n 1, 1) := by decide +kernel
theorem dX_add_61 : decode bX_add 61 = .ok (.iload_n 2, 1) := by decide +kernel
theorem dX_add_62 : decode bX_add 62 = .ok (.iload_n 1, 1) := by decide +kernel
theorem dX_add_63 : decode bX_add 63 = .ok (.ifCond .ne 7, 3) := by decide +kernel
theorem dX_add_66 : decode bX_add 66 = .ok (.iconst 0, 1) := by decide +kernel
theorem dX_add_67 : decode bX_add 67 = .ok (.goto 4, 3) := by decide +kernel
theorem dX_add_70 : decode bX_add 70 = .ok (.iload_n 3, 1) := by decide +kernel
theorem dX_add_71 : decode bX_add 71 = .ok (.iload_n 1, 1) := by decide +kernel
theorem dX_add_72 : decode bX_add 72 = .ok (.ifCond .ne 7, 3) := by decide +kernel
theorem dX_add_75 : decode bX_add 75 = .ok (.iconst 0, 1) := by decide +kernel
theorem dX_add_76 : decode bX_add 76 = .ok (.goto 5, 3) := by decide +kernel
theorem dX_add_79 : decode bX_add 79 = .ok (.iload 4, 2) := by decide +kernel
theorem dX_add_81 : decode bX_add 81 = .ok (.invokevirtual 54, 3) := by decide +kernel
theorem dX_add_84 : decode bX_add 84 = .ok (.ireturn, 1) := by decide +kernel
theorem dX_changeFits_0 : decode bX_changeFits 0 = .ok (.iload_n 2, 1) := by decide +kernel
theorem dX_changeFits_1 : decode bX_changeFits 1 = .ok (.iconst 1, 1) := by decide +kernel
theorem dX_changeFits_2 : decode bX_changeFits 2 = .ok (.if_icmp .ne 17, 3) := by decide +kernel
theorem dX_changeFits_5 : decode bX_changeFits 5 = .ok (.aload_n 0, 1) := by decide +kernel
theorem dX_changeFits_6 : decode bX_changeFits 6 = .ok (.getfield 12, 3) := by decide +kernel
theorem dX_changeFits_9 : decode bX_changeFits 9 = .ok (.getfield 110, 3) := by decide +kernel
theorem dX_changeFits_12 : decode bX_changeFits 12 = .ok (.iload_n 1, 1) := by decide +kernel
theorem dX_changeFits_13 : decode bX_changeFits 13 = .ok (.iaload, 1) := by decide +kernel
theorem dX_changeFits_14 : decode bX_changeFits 14 = .ok (.iload_n 3, 1) := by decide +kernel
theorem dX_changeFits_15 : decode bX_changeFits 15 = .ok (.invokestatic 44, 3) := by decide +kernel
theorem dX_changeFits_18 : decode bX_changeFits 18 = .ok (.ireturn, 1) := by decide +kernel
theorem dX_changeFits_19 : decode bX_changeFits 19 = .ok (.aload_n 0, 1) := by decide +kernel
theorem dX_changeFits_20 : decode bX_changeFits 20 = .ok (.getfield 12, 3) := by decide +kernel
theorem dX_changeFits_23 : decode bX_changeFits 23 = .ok (.getfield 110, 3) := by decide +kernel
theorem dX_changeFits_26 : decode bX_changeFits 26 = .ok (.iload_n 1, 1) := by decide +kernel
theorem dX_changeFits_27 : decode bX_changeFits 27 = .ok (.iaload, 1) := by decide +kernel
theorem dX_changeFits_28 : decode bX_changeFits 28 = .ok (.ifCond .ne 5, 3) := by decide +kernel
theorem dX_changeFits_31 : decode bX_changeFits 31 = .ok (.iconst 0, 1) := by decide +kernel
theorem dX_changeFits_32 : decode bX_changeFits 32 = .ok (.ireturn, 1) := by decide +kernel
theorem dX_changeFits_33 : decode bX_changeFits 33 = .ok (.iload_n 2, 1) := by decide +kernel
theorem dX_changeFits_34 : decode bX_changeFits 34 = .ok (.iconst 2, 1) := by decide +kernel
theorem dX_changeFits_35 : decode bX_changeFits 35 = .ok (.if_icmp .ne 17, 3) := by decide +kernel
theorem dX_changeFits_38 : decode bX_changeFits 38 = .ok (.iload_n 3, 1) := by decide +kernel
theorem dX_changeFits_39 : decode bX_changeFits 39 = .ok (.aload_n 0, 1) := by decide +kernel
theorem dX_changeFits_40 : decode bX_changeFits 40 = .ok (.getfield 12, 3) := by decide +kernel
theorem dX_changeFits_43 : decode bX_changeFits 43 = .ok (.getfield 129, 3) := by decide +kernel
theorem dX_changeFits_46 : decode bX_changeFits 46 = .ok (.iload_n 1, 1) := by decide +kernel
theorem dX_changeFits_47 : decode bX_changeFits 47 = .ok (.iaload, 1) := by decide +kernel
theorem dX_changeFits_48 : decode bX_changeFits 48 = .ok (.invokestatic 48, 3) := by decide +kernel
theorem dX_changeFits_51 : decode bX_changeFits 51 = .ok (.ireturn, 1) := by decide +kernel
theorem dX_changeFits_52 : decode bX_changeFits 52 = .ok (.iload_n 2, 1) := by decide +kernel
theorem dX_changeFits_53 : decode bX_changeFits 53 = .ok (.iconst 3, 1) := by decide +kernel
theorem dX_changeFits_54 : decode bX_changeFits 54 = .ok (.if_icmp .ne 23, 3) := by decide +kernel
theorem dX_changeFits_57 : decode bX_changeFits 57 = .ok (.aload_n 0, 1) := by decide +kernel
theorem dX_changeFits_58 : decode bX_changeFits 58 = .ok (.getfield 12, 3) := by decide +kernel
theorem dX_changeFits_61 : decode bX_changeFits 61 = .ok (.getfield 132, 3) := by decide +kernel
theorem dX_changeFits_64 : decode bX_changeFits 64 = .ok (.iload_n 1, 1) := by decide +kernel
theorem dX_changeFits_65 : decode bX_changeFits 65 = .ok (.iaload, 1) := by decide +kernel
theorem dX_changeFits_66 : decode bX_changeFits 66 = .ok (.iload_n 3, 1) := by decide +kernel
theorem dX_changeFits_67 : decode bX_changeFits 67 = .ok (.invokestatic 48, 3) := by decide +kernel
theorem dX_changeFits_70 : decode bX_changeFits 70 = .ok (.ifCond .eq 7, 3) := by decide +kernel
theorem dX_changeFits_73 : decode bX_changeFits 73 = .ok (.iconst 1, 1) := by decide +kernel
theorem dX_changeFits_74 : decode bX_changeFits 74 = .ok (.goto 4, 3) := by decide +kernel
theorem dX_changeFits_77 : decode bX_changeFits 77 = .ok (.iconst 0, 1) := by decide +kernel
theorem dX_changeFits_78 : decode bX_changeFits 78 = .ok (.ireturn, 1) := by decide +kernel
theorem dX_change_0 : decode bX_change 0 = .ok (.aload_n 0, 1) := by decide +kernel
theorem dX_change_1 : decode bX_change 1 = .ok (.getfield 12, 3) := by decide +kernel
theorem dX_change_4 : decode bX_change 4 = .ok (.iload_n 1, 1) := by decide +kernel
theorem dX_change_5 : decode bX_change 5 = .ok (.invokevirtual 58, 3) := by decide +kernel
theorem dX_change_8 : decode bX_change 8 = .ok (.ifCond .ne 5, 3) := by decide +kernel
theorem dX_change_11 : decode bX_change 11 = .ok (.iconst (-1), 1) := by decide +kernel
theorem dX_change_12 : decode bX_change 12 = .ok (.ireturn, 1) := by decide +kernel
theorem dX_change_13 : decode bX_change 13 = .ok (.aload_n 0, 1) := by decide +kernel
theorem dX_change_14 : decode bX_change 14 = .ok (.iload_n 1, 1) := by decide +kernel
theorem dX_change_15 : decode bX_change 15 = .ok (.iload_n 2, 1) := by decide +kernel
theorem dX_change_16 : decode bX_change 16 = .ok (.iload_n 3, 1) := by decide +kernel
theorem dX_change_17 : decode bX_change 17 = .ok (.invokevirtual 62, 3) := by decide +kernel
theorem dX_change_20 : decode bX_change 20 = .ok (.ifCond .ne 6, 3) := by decide +kernel
theorem dX_change_23 : decode bX_change 23 = .ok (.bipush (-2), 2) := by decide +kernel
theorem dX_change_25 : decode bX_change 25 = .ok (.ireturn, 1) := by decide +kernel
theorem dX_change_26 : decode bX_change 26 = .ok (.aload_n 0, 1) := by decide +kernel
theorem dX_change_27 : decode bX_change 27 = .ok (.iconst 0, 1) := by decide +kernel
theorem dX_change_28 : decode bX_change 28 = .ok (.putfield 40, 3) := by decide +kernel
theorem dX_change_31 : decode bX_change 31 = .ok (.aload_n 0, 1) := by decide +kernel
theorem dX_change_32 : decode bX_change 32 = .ok (.getfield 12, 3) := by decide +kernel
theorem dX_change_35 : decode bX_change 35 = .ok (.iload_n 1, 1) := by decide +kernel
theorem dX_change_36 : decode bX_change 36 = .ok (.iload_n 2, 1) := by decide +kernel
theorem dX_change_37 : decode bX_change 37 = .ok (.invokevirtual 66, 3) := by decide +kernel
theorem dX_change_40 : decode bX_change 40 = .ok (.istore 4, 2) := by decide +kernel
theorem dX_change_42 : decode bX_change 42 = .ok (.aload_n 0, 1) := by decide +kernel
theorem dX_change_43 : decode bX_change 43 = .ok (.getfield 12, 3) := by decide +kernel
theorem dX_change_46 : decode bX_change 46 = .ok (.iload_n 1, 1) := by decide +kernel
theorem dX_change_47 : decode bX_change 47 = .ok (.iload_n 2, 1) := by decide +kernel
theorem dX_change_48 : decode bX_change 48 = .ok (.iload_n 3, 1) := by decide +kernel
theorem dX_change_49 : decode bX_change 49 = .ok (.invokevirtual 70, 3) := by decide +kernel
theorem dX_change_52 : decode bX_change 52 = .ok (.iload 4, 2) := by decide +kernel
theorem dX_change_54 : decode bX_change 54 = .ok (.ireturn, 1) := by decide +kernel
theorem dX_remove_0 : decode bX_remove 0 = .ok (.aload_n 0, 1) := by decide +kernel
theorem dX_remove_1 : decode bX_remove 1 = .ok (.getfield 12, 3) := by decide +kernel
theorem dX_remove_4 : decode bX_remove 4 = .ok (.iload_n 1, 1) := by decide +kernel
theorem dX_remove_5 : decode bX_remove 5 = .ok (.invokevirtual 58, 3) := by decide +kernel
theorem dX_remove_8 : decode bX_remove 8 = .ok (.ifCond .ne 5, 3) := by decide +kernel
theorem dX_remove_11 : decode bX_remove 11 = .ok (.iconst (-1), 1) := by decide +kernel
theorem dX_remove_12 : decode bX_remove 12 = .ok (.ireturn, 1) := by decide +kernel
theorem dX_remove_13 : decode bX_remove 13 = .ok (.aload_n 0, 1) := by decide +kernel
theorem dX_remove_14 : decode bX_remove 14 = .ok (.iconst 0, 1) := by decide +kernel
theorem dX_remove_15 : decode bX_remove 15 = .ok (.putfield 40, 3) := by decide +kernel
theorem dX_remove_18 : decode bX_remove 18 = .ok (.aload_n 0, 1) := by decide +kernel
theorem dX_remove_19 : decode bX_remove 19 = .ok (.getfield 12, 3) := by decide +kernel
theorem dX_remove_22 : decode bX_remove 22 = .ok (.iload_n 1, 1) := by decide +kernel
theorem dX_remove_23 : decode bX_remove 23 = .ok (.aload_n 0, 1) := by decide +kernel
theorem dX_remove_24 : decode bX_remove 24 = .ok (.getfield 12, 3) := by decide +kernel
theorem dX_remove_27 : decode bX_remove 27 = .ok (.getfield 51, 3) := by decide +kernel
theorem dX_remove_30 : decode bX_remove 30 = .ok (.iconst 1, 1) := by decide +kernel
theorem dX_remove_31 : decode bX_remove 31 = .ok (.isub, 1) := by decide +kernel
theorem dX_remove_32 : decode bX_remove 32 = .ok (.invokevirtual 74, 3) := by decide +kernel
theorem dX_remove_35 : decode bX_remove 35 = .ok (.aload_n 0, 1) := by decide +kernel
theorem dX_remove_36 : decode bX_remove 36 = .ok (.getfield 12, 3) := by decide +kernel
theorem dX_remove_39 : decode bX_remove 39 = .ok (.dup, 1) := by decide +kernel
theorem dX_remove_40 : decode bX_remove 40 = .ok (.getfield 51, 3) := by decide +kernel
theorem dX_remove_43 : decode bX_remove 43 = .ok (.iconst 1, 1) := by decide +kernel
theorem dX_remove_44 : decode bX_remove 44 = .ok (.isub, 1) := by decide +kernel
theorem dX_remove_45 : decode bX_remove 45 = .ok (.putfield 51, 3) := by decide +kernel
theorem dX_remove_48 : decode bX_remove 48 = .ok (.aload_n 0, 1) := by decide +kernel
theorem dX_remove_49 : decode bX_remove 49 = .ok (.getfield 12, 3) := by decide +kernel
theorem dX_remove_52 : decode bX_remove 52 = .ok (.getfield 51, 3) := by decide +kernel
theorem dX_remove_55 : decode bX_remove 55 = .ok (.ireturn, 1) := by decide +kernel
theorem dX_move_0 : decode bX_move 0 = .ok (.aload_n 0, 1) := by decide +kernel
theorem dX_move_1 : decode bX_move 1 = .ok (.getfield 12, 3) := by decide +kernel
theorem dX_move_4 : decode bX_move 4 = .ok (.iload_n 1, 1) := by decide +kernel
theorem dX_move_5 : decode bX_move 5 = .ok (.invokevirtual 58, 3) := by decide +kernel
theorem dX_move_8 : decode bX_move 8 = .ok (.ifCond .ne 5, 3) := by decide +kernel
theorem dX_move_11 : decode bX_move 11 = .ok (.iconst (-1), 1) := by decide +kernel
theorem dX_move_12 : decode bX_move 12 = .ok (.ireturn, 1) := by decide +kernel
theorem dX_move_13 : decode bX_move 13 = .ok (.aload_n 0, 1) := by decide +kernel
theorem dX_move_14 : decode bX_move 14 = .ok (.getfield 12, 3) := by decide +kernel
theorem dX_move_17 : decode bX_move 17 = .ok (.iload_n 2, 1) := by decide +kernel
theorem dX_move_18 : decode bX_move 18 = .ok (.invokevirtual 58, 3) := by decide +kernel
theorem dX_move_21 : decode bX_move 21 = .ok (.ifCond .ne 6, 3) := by decide +kernel
theorem dX_move_24 : decode bX_move 24 = .ok (.bipush (-2), 2) := by decide +kernel
theorem dX_move_26 : decode bX_move 26 = .ok (.ireturn, 1) := by decide +kernel
theorem dX_move_27 : decode bX_move 27 = .ok (.aload_n 0, 1) := by decide +kernel
theorem dX_move_28 : decode bX_move 28 = .ok (.iconst 0, 1) := by decide +kernel
theorem dX_move_29 : decode bX_move 29 = .ok (.putfield 40, 3) := by decide +kernel
theorem dX_move_32 : decode bX_move 32 = .ok (.aload_n 0, 1) := by decide +kernel
theorem dX_move_33 : decode bX_move 33 = .ok (.getfield 12, 3) := by decide +kernel
theorem dX_move_36 : decode bX_move 36 = .ok (.iload_n 1, 1) := by decide +kernel
theorem dX_move_37 : decode bX_move 37 = .ok (.iload_n 2, 1) := by decide +kernel
theorem dX_move_38 : decode bX_move 38 = .ok (.invokevirtual 74, 3) := by decide +kernel
theorem dX_move_41 : decode bX_move 41 = .ok (.iconst 1, 1) := by decide +kernel
theorem dX_move_42 : decode bX_move 42 = .ok (.ireturn, 1) := by decide +kernel
theorem dX_set_0 : decode bX_set 0 = .ok (.iload_n 1, 1) := by decide +kernel
theorem dX_set_1 : decode bX_set 1 = .ok (.ifCond .ne 33, 3) := by decide +kernel
theorem dX_set_4 : decode bX_set 4 = .ok (.iload_n 2, 1) := by decide +kernel
theorem dX_set_5 : decode bX_set 5 = .ok (.iconst 3, 1) := by decide +kernel
theorem dX_set_6 : decode bX_set 6 = .ok (.if_icmp .lt 28, 3) := by decide +kernel
theorem dX_set_9 : decode bX_set 9 = .ok (.iload_n 2, 1) := by decide +kernel
theorem dX_set_10 : decode bX_set 10 = .ok (.bipush 20, 2) := by decide +kernel
theorem dX_set_12 : decode bX_set 12 = .ok (.if_icmp .gt 22, 3) := by decide +kernel
theorem dX_set_15 : decode bX_set 15 = .ok (.aload_n 0, 1) := by decide +kernel
theorem dX_set_16 : decode bX_set 16 = .ok (.getfield 12, 3) := by decide +kernel
theorem dX_set_19 : decode bX_set 19 = .ok (.getfield 78, 3) := by decide +kernel
theorem dX_set_22 : decode bX_set 22 = .ok (.istore_n 3, 1) := by decide +kernel
theorem dX_set_23 : decode bX_set 23 = .ok (.aload_n 0, 1) := by decide +kernel
theorem dX_set_24 : decode bX_set 24 = .ok (.getfield 12, 3) := by decide +kernel
theorem dX_set_27 : decode bX_set 27 = .ok (.iload_n 2, 1) := by decide +kernel
theorem dX_set_28 : decode bX_set 28 = .ok (.putfield 78, 3) := by decide +kernel
theorem dX_set_31 : decode bX_set 31 = .ok (.goto 43, 3) := by decide +kernel
theorem dX_set_34 : decode bX_set 34 = .ok (.iload_n 1, 1) := by decide +kernel
theorem dX_set_35 : decode bX_set 35 = .ok (.iconst 1, 1) := by decide +kernel
theorem dX_set_36 : decode bX_set 36 = .ok (.if_icmp .ne 35, 3) := by decide +kernel
theorem dX_set_39 : decode bX_set 39 = .ok (.iload_n 2, 1) := by decide +kernel
theorem dX_set_40 : decode bX_set 40 = .ok (.bipush 12, 2) := by decide +kernel
theorem dX_set_42 : decode bX_set 42 = .ok (.if_icmp .lt 29, 3) := by decide +kernel
theorem dX_set_45 : decode bX_set 45 = .ok (.iload_n 2, 1) := by decide +kernel
theorem dX_set_46 : decode bX_set 46 = .ok (.sipush 200, 3) := by decide +kernel
theorem dX_set_49 : decode bX_set 49 = .ok (.if_icmp .gt 22, 3) := by decide +kernel
theorem dX_set_52 : decode bX_set 52 = .ok (.aload_n 0, 1) := by decide +kernel
theorem dX_set_53 : decode bX_set 53 = .ok (.getfield 12, 3) := by decide +kernel
theorem dX_set_56 : decode bX_set 56 = .ok (.getfield 81, 3) := by decide +kernel
theorem dX_set_59 : decode bX_set 59 = .ok (.istore_n 3, 1) := by decide +kernel
theorem dX_set_60 : decode bX_set 60 = .ok (.aload_n 0, 1) := by decide +kernel
theorem dX_set_61 : decode bX_set 61 = .ok (.getfield 12, 3) := by decide +kernel
theorem dX_set_64 : decode bX_set 64 = .ok (.iload_n 2, 1) := by decide +kernel
theorem dX_set_65 : decode bX_set 65 = .ok (.putfield 81, 3) := by decide +kernel
theorem dX_set_68 : decode bX_set 68 = .ok (.goto 6, 3) := by decide +kernel
theorem dX_set_71 : decode bX_set 71 = .ok (.bipush (-2), 2) := by decide +kernel
theorem dX_set_73 : decode bX_set 73 = .ok (.ireturn, 1) := by decide +kernel
theorem dX_set_74 : decode bX_set 74 = .ok (.aload_n 0, 1) := by decide +kernel
theorem dX_set_75 : decode bX_set 75 = .ok (.iconst 0, 1) := by decide +kernel
theorem dX_set_76 : decode bX_set 76 = .ok (.putfield 40, 3) := by decide +kernel
theorem dX_set_79 : decode bX_set 79 = .ok (.iload_n 3, 1) := by decide +kernel
theorem dX_set_80 : decode bX_set 80 = .ok (.ireturn, 1) := by decide +kernel
theorem dX_item_0 : decode bX_item 0 = .ok (.aload_n 0, 1) := by decide +kernel
theorem dX_item_1 : decode bX_item 1 = .ok (.getfield 12, 3) := by decide +kernel
theorem dX_item_4 : decode bX_item 4 = .ok (.iload_n 1, 1) := by decide +kernel
theorem dX_item_5 : decode bX_item 5 = .ok (.invokevirtual 58, 3) := by decide +kernel
theorem dX_item_8 : decode bX_item 8 = .ok (.ifCond .ne 5, 3) := by decide +kernel
theorem dX_item_11 : decode bX_item 11 = .ok (.iconst (-1), 1) := by decide +kernel
theorem dX_item_12 : decode bX_item 12 = .ok (.ireturn, 1) := by decide +kernel
theorem dX_item_13 : decode bX_item 13 = .ok (.iload_n 2, 1) := by decide +kernel
theorem dX_item_14 : decode bX_item 14 = .ok (.ifCond .lt 8, 3) := by decide +kernel
theorem dX_item_17 : decode bX_item 17 = .ok (.iload_n 2, 1) := by decide +kernel
theorem dX_item_18 : decode bX_item 18 = .ok (.iconst 3, 1) := by decide +kernel
theorem dX_item_19 : decode bX_item 19 = .ok (.if_icmp .le 8, 3) := by decide +kernel
theorem dX_item_22 : decode bX_item 22 = .ok (.bipush (-2), 2) := by decide +kernel
theorem dX_item_24 : decode bX_item 24 = .ok (.goto 12, 3) := by decide +kernel
theorem dX_item_27 : decode bX_item 27 = .ok (.aload_n 0, 1) := by decide +kernel
theorem dX_item_28 : decode bX_item 28 = .ok (.getfield 12, 3) := by decide +kernel
theorem dX_item_31 : decode bX_item 31 = .ok (.iload_n 1, 1) := by decide +kernel
theorem dX_item_32 : decode bX_item 32 = .ok (.iload_n 2, 1) := by decide +kernel
theorem dX_item_33 : decode bX_item 33 = .ok (.invokevirtual 66, 3) := by decide +kernel
theorem dX_item_36 : decode bX_item 36 = .ok (.ireturn, 1) := by decide +kernel
theorem dX_layBest_0 : decode bX_layBest 0 = .ok (.aload_n 0, 1) := by decide +kernel
theorem dX_layBest_1 : decode bX_layBest 1 = .ok (.getfield 40, 3) := by decide +kernel
theorem dX_layBest_4 : decode bX_layBest 4 = .ok (.ifCond .ne 54, 3) := by decide +kernel
theorem dX_layBest_7 : decode bX_layBest 7 = .ok (.aload_n 0, 1) := by decide +kernel
theorem dX_layBest_8 : decode bX_layBest 8 = .ok (.getfield 28, 3) := by decide +kernel
theorem dX_layBest_11 : decode bX_layBest 11 = .ok (.aload_n 0, 1) := by decide +kernel
theorem dX_layBest_12 : decode bX_layBest 12 = .ok (.getfield 21, 3) := by decide +kernel
theorem dX_layBest_15 : decode bX_layBest 15 = .ok (.iconst (-1), 1) := by decide +kernel
theorem dX_layBest_16 : decode bX_layBest 16 = .ok (.invokevirtual 135, 3) := by decide +kernel
theorem dX_layBest_19 : decode bX_layBest 19 = .ok (.ldc 138, 2) := by decide +kernel
theorem dX_layBest_21 : decode bX_layBest 21 = .ok (.if_icmp .ge 7, 3) := by decide +kernel
theorem dX_layBest_24 : decode bX_layBest 24 = .ok (.iconst 1, 1) := by decide +kernel
theorem dX_layBest_25 : decode bX_layBest 25 = .ok (.goto 4, 3) := by decide +kernel
theorem dX_layBest_28 : decode bX_layBest 28 = .ok (.iconst 0, 1) := by decide +kernel
theorem dX_layBest_29 : decode bX_layBest 29 = .ok (.putfield 139, 3) := by decide +kernel
theorem dX_layBest_32 : decode bX_layBest 32 = .ok (.aload_n 0, 1) := by decide +kernel
theorem dX_layBest_33 : decode bX_layBest 33 = .ok (.getfield 28, 3) := by decide +kernel
theorem dX_layBest_36 : decode bX_layBest 36 = .ok (.getfield 139, 3) := by decide +kernel
theorem dX_layBest_39 : decode bX_layBest 39 = .ok (.ifCond .eq 14, 3) := by decide +kernel
theorem dX_layBest_42 : decode bX_layBest 42 = .ok (.aload_n 0, 1) := by decide +kernel
theorem dX_layBest_43 : decode bX_layBest 43 = .ok (.getfield 28, 3) := by decide +kernel
theorem dX_layBest_46 : decode bX_layBest 46 = .ok (.aload_n 0, 1) := by decide +kernel
theorem dX_layBest_47 : decode bX_layBest 47 = .ok (.getfield 21, 3) := by decide +kernel
theorem dX_layBest_50 : decode bX_layBest 50 = .ok (.invokevirtual 142, 3) := by decide +kernel
theorem dX_layBest_53 : decode bX_layBest 53 = .ok (.aload_n 0, 1) := by decide +kernel
theorem dX_layBest_54 : decode bX_layBest 54 = .ok (.iconst 1, 1) := by decide +kernel
theorem dX_layBest_55 : decode bX_layBest 55 = .ok (.putfield 40, 3) := by decide +kernel
theorem dX_layBest_58 : decode bX_layBest 58 = .ok (.aload_n 0, 1) := by decide +kernel
theorem dX_layBest_59 : decode bX_layBest 59 = .ok (.getfield 28, 3) := by decide +kernel
theorem dX_layBest_62 : decode bX_layBest 62 = .ok (.getfield 139, 3) := by decide +kernel
theorem dX_layBest_65 : decode bX_layBest 65 = .ok (.ireturn, 1) := by decide +kernel
theorem dX_best_0 : decode bX_best 0 = .ok (.iload_n 1, 1) := by decide +kernel
theorem dX_best_1 : decode bX_best 1 = .ok (.ifCond .lt 8, 3) := by decide +kernel
theorem dX_best_4 : decode bX_best 4 = .ok (.iload_n 1, 1) := by decide +kernel
theorem dX_best_5 : decode bX_best 5 = .ok (.iconst 4, 1) := by decide +kernel
theorem dX_best_6 : decode bX_best 6 = .ok (.if_icmp .le 6, 3) := by decide +kernel
theorem dX_best_9 : decode bX_best 9 = .ok (.bipush (-2), 2) := by decide +kernel
theorem dX_best_11 : decode bX_best 11 = .ok (.ireturn, 1) := by decide +kernel
theorem dX_best_12 : decode bX_best 12 = .ok (.aload_n 0, 1) := by decide +kernel
theorem dX_best_13 : decode bX_best 13 = .ok (.invokevirtual 84, 3) := by decide +kernel
theorem dX_best_16 : decode bX_best 16 = .ok (.ifCond .eq 14, 3) := by decide +kernel
theorem dX_best_19 : decode bX_best 19 = .ok (.aload_n 0, 1) := by decide +kernel
theorem dX_best_20 : decode bX_best 20 = .ok (.getfield 28, 3) := by decide +kernel
theorem dX_best_23 : decode bX_best 23 = .ok (.iload_n 1, 1) := by decide +kernel
theorem dX_best_24 : decode bX_best 24 = .ok (.invokevirtual 88, 3) := by decide +kernel
theorem dX_best_27 : decode bX_best 27 = .ok (.goto 5, 3) := by decide +kernel
theorem dX_best_30 : decode bX_best 30 = .ok (.bipush (-6), 2) := by decide +kernel
theorem dX_best_32 : decode bX_best 32 = .ok (.ireturn, 1) := by decide +kernel
theorem dX_place_0 : decode bX_place 0 = .ok (.aload_n 0, 1) := by decide +kernel
theorem dX_place_1 : decode bX_place 1 = .ok (.getfield 12, 3) := by decide +kernel
theorem dX_place_4 : decode bX_place 4 = .ok (.iload_n 1, 1) := by decide +kernel
theorem dX_place_5 : decode bX_place 5 = .ok (.invokevirtual 58, 3) := by decide +kernel
theorem dX_place_8 : decode bX_place 8 = .ok (.ifCond .ne 5, 3) := by decide +kernel
theorem dX_place_11 : decode bX_place 11 = .ok (.iconst (-1), 1) := by decide +kernel
theorem dX_place_12 : decode bX_place 12 = .ok (.ireturn, 1) := by decide +kernel
theorem dX_place_13 : decode bX_place 13 = .ok (.iload_n 3, 1) := by decide +kernel
theorem dX_place_14 : decode bX_place 14 = .ok (.ifCond .lt 8, 3) := by decide +kernel
theorem dX_place_17 : decode bX_place 17 = .ok (.iload_n 3, 1) := by decide +kernel
theorem dX_place_18 : decode bX_place 18 = .ok (.iconst 3, 1) := by decide +kernel
theorem dX_place_19 : decode bX_place 19 = .ok (.if_icmp .le 6, 3) := by decide +kernel
theorem dX_place_22 : decode bX_place 22 = .ok (.bipush (-2), 2) := by decide +kernel
theorem dX_place_24 : decode bX_place 24 = .ok (.ireturn, 1) := by decide +kernel
theorem dX_place_25 : decode bX_place 25 = .ok (.iload_n 2, 1) := by decide +kernel
theorem dX_place_26 : decode bX_place 26 = .ok (.ifCond .lt 22, 3) := by decide +kernel
theorem dX_place_29 : decode bX_place 29 = .ok (.iload_n 2, 1) := by decide +kernel
theorem dX_place_30 : decode bX_place 30 = .ok (.aload_n 0, 1) := by decide +kernel
theorem dX_place_31 : decode bX_place 31 = .ok (.getfield 12, 3) := by decide +kernel
theorem dX_place_34 : decode bX_place 34 = .ok (.iload_n 1, 1) := by decide +kernel
theorem dX_place_35 : decode bX_place 35 = .ok (.invokevirtual 92, 3) := by decide +kernel
theorem dX_place_38 : decode bX_place 38 = .ok (.if_icmp .ge 10, 3) := by decide +kernel
theorem dX_place_41 : decode bX_place 41 = .ok (.aload_n 0, 1) := by decide +kernel
theorem dX_place_42 : decode bX_place 42 = .ok (.invokevirtual 84, 3) := by decide +kernel
theorem dX_place_45 : decode bX_place 45 = .ok (.ifCond .ne 6, 3) := by decide +kernel
theorem dX_place_48 : decode bX_place 48 = .ok (.bipush (-6), 2) := by decide +kernel
theorem dX_place_50 : decode bX_place 50 = .ok (.ireturn, 1) := by decide +kernel
theorem dX_place_51 : decode bX_place 51 = .ok (.aload_n 0, 1) := by decide +kernel
theorem dX_place_52 : decode bX_place 52 = .ok (.getfield 28, 3) := by decide +kernel
theorem dX_place_55 : decode bX_place 55 = .ok (.aload_n 0, 1) := by decide +kernel
theorem dX_place_56 : decode bX_place 56 = .ok (.getfield 12, 3) := by decide +kernel
theorem dX_place_59 : decode bX_place 59 = .ok (.iload_n 1, 1) := by decide +kernel
theorem dX_place_60 : decode bX_place 60 = .ok (.invokevirtual 95, 3) := by decide +kernel
theorem dX_place_63 : decode bX_place 63 = .ok (.iload_n 2, 1) := by decide +kernel
theorem dX_place_64 : decode bX_place 64 = .ok (.iadd, 1) := by decide +kernel
theorem dX_place_65 : decode bX_place 65 = .ok (.iload_n 3, 1) := by decide +kernel
theorem dX_place_66 : decode bX_place 66 = .ok (.invokevirtual 98, 3) := by decide +kernel
theorem dX_place_69 : decode bX_place 69 = .ok (.ireturn, 1) := by decide +kernel
theorem dX_column_0 : decode bX_column 0 = .ok (.iload_n 2, 1) := by decide +kernel
theorem dX_column_1 : decode bX_column 1 = .ok (.ifCond .lt 8, 3) := by decide +kernel
theorem dX_column_4 : decode bX_column 4 = .ok (.iload_n 2, 1) := by decide +kernel
theorem dX_column_5 : decode bX_column 5 = .ok (.iconst 4, 1) := by decide +kernel
theorem dX_column_6 : decode bX_column 6 = .ok (.if_icmp .le 6, 3) := by decide +kernel
theorem dX_column_9 : decode bX_column 9 = .ok (.bipush (-2), 2) := by decide +kernel
theorem dX_column_11 : decode bX_column 11 = .ok (.ireturn, 1) := by decide +kernel
theorem dX_column_12 : decode bX_column 12 = .ok (.aload_n 0, 1) := by decide +kernel
theorem dX_column_13 : decode bX_column 13 = .ok (.invokevirtual 84, 3) := by decide +kernel
theorem dX_column_16 : decode bX_column 16 = .ok (.ifCond .eq 18, 3) := by decide +kernel
theorem dX_column_19 : decode bX_column 19 = .ok (.iload_n 1, 1) := by decide +kernel
theorem dX_column_20 : decode bX_column 20 = .ok (.ifCond .lt 14, 3) := by decide +kernel
theorem dX_column_23 : decode bX_column 23 = .ok (.iload_n 1, 1) := by decide +kernel
theorem dX_column_24 : decode bX_column 24 = .ok (.aload_n 0, 1) := by decide +kernel
theorem dX_column_25 : decode bX_column 25 = .ok (.getfield 28, 3) := by decide +kernel
theorem dX_column_28 : decode bX_column 28 = .ok (.getfield 101, 3) := by decide +kernel
theorem dX_column_31 : decode bX_column 31 = .ok (.if_icmp .lt 6, 3) := by decide +kernel
theorem dX_column_34 : decode bX_column 34 = .ok (.bipush (-6), 2) := by decide +kernel
theorem dX_column_36 : decode bX_column 36 = .ok (.ireturn, 1) := by decide +kernel
theorem dX_column_37 : decode bX_column 37 = .ok (.aload_n 0, 1) := by decide +kernel
theorem dX_column_38 : decode bX_column 38 = .ok (.getfield 28, 3) := by decide +kernel
theorem dX_column_41 : decode bX_column 41 = .ok (.iload_n 1, 1) := by decide +kernel
theorem dX_column_42 : decode bX_column 42 = .ok (.iload_n 2, 1) := by decide +kernel
theorem dX_column_43 : decode bX_column 43 = .ok (.invokevirtual 104, 3) := by decide +kernel
theorem dX_column_46 : decode bX_column 46 = .ok (.ireturn, 1) := by decide +kernel
theorem dX_meet_0 : decode bX_meet 0 = .ok (.aload_n 0, 1) := by decide +kernel
theorem dX_meet_1 : decode bX_meet 1 = .ok (.invokevirtual 84, 3) := by decide +kernel
theorem dX_meet_4 : decode bX_meet 4 = .ok (.ifCond .eq 22, 3) := by decide +kernel
theorem dX_meet_7 : decode bX_meet 7 = .ok (.iload_n 1, 1) := by decide +kernel
theorem dX_meet_8 : decode bX_meet 8 = .ok (.ifCond .lt 18, 3) := by decide +kernel
theorem dX_meet_11 : decode bX_meet 11 = .ok (.iload_n 1, 1) := by decide +kernel
theorem dX_meet_12 : decode bX_meet 12 = .ok (.aload_n 0, 1) := by decide +kernel
theorem dX_meet_13 : decode bX_meet 13 = .ok (.getfield 28, 3) := by decide +kernel
theorem dX_meet_16 : decode bX_meet 16 = .ok (.getfield 101, 3) := by decide +kernel
theorem dX_meet_19 : decode bX_meet 19 = .ok (.iconst 1, 1) := by decide +kernel
theorem dX_meet_20 : decode bX_meet 20 = .ok (.iadd, 1) := by decide +kernel
theorem dX_meet_21 : decode bX_meet 21 = .ok (.iconst 2, 1) := by decide +kernel
theorem dX_meet_22 : decode bX_meet 22 = .ok (.idiv, 1) := by decide +kernel
theorem dX_meet_23 : decode bX_meet 23 = .ok (.if_icmp .lt 6, 3) := by decide +kernel
theorem dX_meet_26 : decode bX_meet 26 = .ok (.bipush (-6), 2) := by decide +kernel
theorem dX_meet_28 : decode bX_meet 28 = .ok (.ireturn, 1) := by decide +kernel
theorem dX_meet_29 : decode bX_meet 29 = .ok (.aload_n 0, 1) := by decide +kernel
theorem dX_meet_30 : decode bX_meet 30 = .ok (.getfield 28, 3) := by decide +kernel
theorem dX_meet_33 : decode bX_meet 33 = .ok (.iconst 2, 1) := by decide +kernel
theorem dX_meet_34 : decode bX_meet 34 = .ok (.iload_n 1, 1) := by decide +kernel
theorem dX_meet_35 : decode bX_meet 35 = .ok (.imul, 1) := by decide +kernel
theorem dX_meet_36 : decode bX_meet 36 = .ok (.invokevirtual 107, 3) := by decide +kernel
theorem dX_meet_39 : decode bX_meet 39 = .ok (.ireturn, 1) := by decide +kernel
theorem dX_reliefBy_0 : decode bX_reliefBy 0 = .ok (.aload_n 0, 1) := by decide +kernel
theorem dX_reliefBy_1 : decode bX_reliefBy 1 = .ok (.getfield 12, 3) := by decide +kernel
theorem dX_reliefBy_4 : decode bX_reliefBy 4 = .ok (.getfield 129, 3) := by decide +kernel
theorem dX_reliefBy_7 : decode bX_reliefBy 7 = .ok (.iload_n 1, 1) := by decide +kernel
theorem dX_reliefBy_8 : decode bX_reliefBy 8 = .ok (.iaload, 1) := by decide +kernel
theorem dX_reliefBy_9 : decode bX_reliefBy 9 = .ok (.bipush 30, 2) := by decide +kernel
theorem dX_reliefBy_11 : decode bX_reliefBy 11 = .ok (.if_icmp .ne 5, 3) := by decide +kernel
theorem dX_reliefBy_14 : decode bX_reliefBy 14 = .ok (.iconst 0, 1) := by decide +kernel
theorem dX_reliefBy_15 : decode bX_reliefBy 15 = .ok (.ireturn, 1) := by decide +kernel
theorem dX_reliefBy_16 : decode bX_reliefBy 16 = .ok (.aload_n 0, 1) := by decide +kernel
theorem dX_reliefBy_17 : decode bX_reliefBy 17 = .ok (.getfield 21, 3) := by decide +kernel
theorem dX_reliefBy_20 : decode bX_reliefBy 20 = .ok (.iload_n 1, 1) := by decide +kernel
theorem dX_reliefBy_21 : decode bX_reliefBy 21 = .ok (.invokevirtual 135, 3) := by decide +kernel
theorem dX_reliefBy_24 : decode bX_reliefBy 24 = .ok (.istore_n 2, 1) := by decide +kernel
theorem dX_reliefBy_25 : decode bX_reliefBy 25 = .ok (.aload_n 0, 1) := by decide +kernel
theorem dX_reliefBy_26 : decode bX_reliefBy 26 = .ok (.getfield 28, 3) := by decide +kernel
theorem dX_reliefBy_29 : decode bX_reliefBy 29 = .ok (.getfield 117, 3) := by decide +kernel
theorem dX_reliefBy_32 : decode bX_reliefBy 32 = .ok (.iload_n 2, 1) := by decide +kernel
theorem dX_reliefBy_33 : decode bX_reliefBy 33 = .ok (.ldc 146, 2) := by decide +kernel
theorem dX_reliefBy_35 : decode bX_reliefBy 35 = .ok (.irem, 1) := by decide +kernel
theorem dX_reliefBy_36 : decode bX_reliefBy 36 = .ok (.sipush 1024, 3) := by decide +kernel
theorem dX_reliefBy_39 : decode bX_reliefBy 39 = .ok (.idiv, 1) := by decide +kernel
theorem dX_reliefBy_40 : decode bX_reliefBy 40 = .ok (.isub, 1) := by decide +kernel
theorem dX_reliefBy_41 : decode bX_reliefBy 41 = .ok (.ireturn, 1) := by decide +kernel
theorem dX_relief_0 : decode bX_relief 0 = .ok (.aload_n 0, 1) := by decide +kernel
theorem dX_relief_1 : decode bX_relief 1 = .ok (.getfield 12, 3) := by decide +kernel
theorem dX_relief_4 : decode bX_relief 4 = .ok (.iload_n 1, 1) := by decide +kernel
theorem dX_relief_5 : decode bX_relief 5 = .ok (.invokevirtual 58, 3) := by decide +kernel
theorem dX_relief_8 : decode bX_relief 8 = .ok (.ifCond .ne 5, 3) := by decide +kernel
theorem dX_relief_11 : decode bX_relief 11 = .ok (.iconst (-1), 1) := by decide +kernel
theorem dX_relief_12 : decode bX_relief 12 = .ok (.ireturn, 1) := by decide +kernel
theorem dX_relief_13 : decode bX_relief 13 = .ok (.aload_n 0, 1) := by decide +kernel
theorem dX_relief_14 : decode bX_relief 14 = .ok (.getfield 12, 3) := by decide +kernel
theorem dX_relief_17 : decode bX_relief 17 = .ok (.getfield 110, 3) := by decide +kernel
theorem dX_relief_20 : decode bX_relief 20 = .ok (.iload_n 1, 1) := by decide +kernel
theorem dX_relief_21 : decode bX_relief 21 = .ok (.iaload, 1) := by decide +kernel
theorem dX_relief_22 : decode bX_relief 22 = .ok (.ifCond .ne 6, 3) := by decide +kernel
theorem dX_relief_25 : decode bX_relief 25 = .ok (.bipush (-2), 2) := by decide +kernel
theorem dX_relief_27 : decode bX_relief 27 = .ok (.ireturn, 1) := by decide +kernel
theorem dX_relief_28 : decode bX_relief 28 = .ok (.aload_n 0, 1) := by decide +kernel
theorem dX_relief_29 : decode bX_relief 29 = .ok (.invokevirtual 84, 3) := by decide +kernel
theorem dX_relief_32 : decode bX_relief 32 = .ok (.ifCond .eq 15, 3) := by decide +kernel
theorem dX_relief_35 : decode bX_relief 35 = .ok (.sipush 1000, 3) := by decide +kernel
theorem dX_relief_38 : decode bX_relief 38 = .ok (.aload_n 0, 1) := by decide +kernel
theorem dX_relief_39 : decode bX_relief 39 = .ok (.iload_n 1, 1) := by decide +kernel
theorem dX_relief_40 : decode bX_relief 40 = .ok (.invokevirtual 114, 3) := by decide +kernel
theorem dX_relief_43 : decode bX_relief 43 = .ok (.iadd, 1) := by decide +kernel
theorem dX_relief_44 : decode bX_relief 44 = .ok (.goto 5, 3) := by decide +kernel
theorem dX_relief_47 : decode bX_relief 47 = .ok (.bipush (-6), 2) := by decide +kernel
theorem dX_relief_49 : decode bX_relief 49 = .ok (.ireturn, 1) := by decide +kernel
theorem dX_culprit_0 : decode bX_culprit 0 = .ok (.aload_n 0, 1) := by decide +kernel
theorem dX_culprit_1 : decode bX_culprit 1 = .ok (.invokevirtual 84, 3) := by decide +kernel
theorem dX_culprit_4 : decode bX_culprit 4 = .ok (.ifCond .ne 6, 3) := by decide +kernel
theorem dX_culprit_7 : decode bX_culprit 7 = .ok (.bipush (-6), 2) := by decide +kernel
theorem dX_culprit_9 : decode bX_culprit 9 = .ok (.ireturn, 1) := by decide +kernel
theorem dX_culprit_10 : decode bX_culprit 10 = .ok (.bipush (-6), 2) := by decide +kernel
theorem dX_culprit_12 : decode bX_culprit 12 = .ok (.istore_n 1, 1) := by decide +kernel
theorem dX_culprit_13 : decode bX_culprit 13 = .ok (.iconst 0, 1) := by decide +kernel
theorem dX_culprit_14 : decode bX_culprit 14 = .ok (.istore_n 2, 1) := by decide +kernel
theorem dX_culprit_15 : decode bX_culprit 15 = .ok (.iconst 0, 1) := by decide +kernel
theorem dX_culprit_16 : decode bX_culprit 16 = .ok (.istore_n 3, 1) := by decide +kernel
theorem dX_culprit_17 : decode bX_culprit 17 = .ok (.iload_n 3, 1) := by decide +kernel
theorem dX_culprit_18 : decode bX_culprit 18 = .ok (.aload_n 0, 1) := by decide +kernel
theorem dX_culprit_19 : decode bX_culprit 19 = .ok (.getfield 12, 3) := by decide +kernel
theorem dX_culprit_22 : decode bX_culprit 22 = .ok (.getfield 51, 3) := by decide +kernel
theorem dX_culprit_25 : decode bX_culprit 25 = .ok (.if_icmp .ge 54, 3) := by decide +kernel
theorem dX_culprit_28 : decode bX_culprit 28 = .ok (.iload_n 2, 1) := by decide +kernel
theorem dX_culprit_29 : decode bX_culprit 29 = .ok (.aload_n 0, 1) := by decide +kernel
theorem dX_culprit_30 : decode bX_culprit 30 = .ok (.getfield 28, 3) := by decide +kernel
theorem dX_culprit_33 : decode bX_culprit 33 = .ok (.getfield 117, 3) := by decide +kernel
theorem dX_culprit_36 : decode bX_culprit 36 = .ok (.if_icmp .ge 43, 3) := by decide +kernel
theorem dX_culprit_39 : decode bX_culprit 39 = .ok (.aload_n 0, 1) := by decide +kernel
theorem dX_culprit_40 : decode bX_culprit 40 = .ok (.getfield 12, 3) := by decide +kernel
theorem dX_culprit_43 : decode bX_culprit 43 = .ok (.getfield 110, 3) := by decide +kernel
theorem dX_culprit_46 : decode bX_culprit 46 = .ok (.iload_n 3, 1) := by decide +kernel
theorem dX_culprit_47 : decode bX_culprit 47 = .ok (.iaload, 1) := by decide +kernel
theorem dX_culprit_48 : decode bX_culprit 48 = .ok (.ifCond .ne 7, 3) := by decide +kernel
theorem dX_culprit_51 : decode bX_culprit 51 = .ok (.iconst 0, 1) := by decide +kernel
theorem dX_culprit_52 : decode bX_culprit 52 = .ok (.goto 8, 3) := by decide +kernel
theorem dX_culprit_55 : decode bX_culprit 55 = .ok (.aload_n 0, 1) := by decide +kernel
theorem dX_culprit_56 : decode bX_culprit 56 = .ok (.iload_n 3, 1) := by decide +kernel
theorem dX_culprit_57 : decode bX_culprit 57 = .ok (.invokevirtual 114, 3) := by decide +kernel
theorem dX_culprit_60 : decode bX_culprit 60 = .ok (.istore 4, 2) := by decide +kernel
theorem dX_culprit_62 : decode bX_culprit 62 = .ok (.iload 4, 2) := by decide +kernel
theorem dX_culprit_64 : decode bX_culprit 64 = .ok (.iload_n 2, 1) := by decide +kernel
theorem dX_culprit_65 : decode bX_culprit 65 = .ok (.if_icmp .le 8, 3) := by decide +kernel
theorem dX_culprit_68 : decode bX_culprit 68 = .ok (.iload 4, 2) := by decide +kernel
theorem dX_culprit_70 : decode bX_culprit 70 = .ok (.istore_n 2, 1) := by decide +kernel
theorem dX_culprit_71 : decode bX_culprit 71 = .ok (.iload_n 3, 1) := by decide +kernel
theorem dX_culprit_72 : decode bX_culprit 72 = .ok (.istore_n 1, 1) := by decide +kernel
theorem dX_culprit_73 : decode bX_culprit 73 = .ok (.iinc 3 1, 3) := by decide +kernel
theorem dX_culprit_76 : decode bX_culprit 76 = .ok (.goto (-59), 3) := by decide +kernel
theorem dX_culprit_79 : decode bX_culprit 79 = .ok (.iload_n 1, 1) := by decide +kernel
theorem dX_culprit_80 : decode bX_culprit 80 = .ok (.ireturn, 1) := by decide +kernel
theorem dX_fit_0 : decode bX_fit 0 = .ok (.iload_n 1, 1) := by decide +kernel
theorem dX_fit_1 : decode bX_fit 1 = .ok (.ifCond .lt 10, 3) := by decide +kernel
theorem dX_fit_4 : decode bX_fit 4 = .ok (.iload_n 1, 1) := by decide +kernel
theorem dX_fit_5 : decode bX_fit 5 = .ok (.sipush 150, 3) := by decide +kernel
theorem dX_fit_8 : decode bX_fit 8 = .ok (.if_icmp .le 6, 3) := by decide +kernel
theorem dX_fit_11 : decode bX_fit 11 = .ok (.bipush (-2), 2) := by decide +kernel
theorem dX_fit_13 : decode bX_fit 13 = .ok (.ireturn, 1) := by decide +kernel
theorem dX_fit_14 : decode bX_fit 14 = .ok (.aload_n 0, 1) := by decide +kernel
theorem dX_fit_15 : decode bX_fit 15 = .ok (.getfield 21, 3) := by decide +kernel
theorem dX_fit_18 : decode bX_fit 18 = .ok (.sipush 200, 3) := by decide +kernel
theorem dX_fit_21 : decode bX_fit 21 = .ok (.invokevirtual 120, 3) := by decide +kernel
theorem dX_fit_24 : decode bX_fit 24 = .ok (.iload_n 1, 1) := by decide +kernel
theorem dX_fit_25 : decode bX_fit 25 = .ok (.if_icmp .le 6, 3) := by decide +kernel
theorem dX_fit_28 : decode bX_fit 28 = .ok (.bipush (-6), 2) := by decide +kernel
theorem dX_fit_30 : decode bX_fit 30 = .ok (.ireturn, 1) := by decide +kernel
theorem dX_fit_31 : decode bX_fit 31 = .ok (.sipush 200, 3) := by decide +kernel
theorem dX_fit_34 : decode bX_fit 34 = .ok (.istore_n 2, 1) := by decide +kernel
theorem dX_fit_35 : decode bX_fit 35 = .ok (.sipush 128, 3) := by decide +kernel
theorem dX_fit_38 : decode bX_fit 38 = .ok (.istore_n 3, 1) := by decide +kernel
theorem dX_fit_39 : decode bX_fit 39 = .ok (.iload_n 3, 1) := by decide +kernel
theorem dX_fit_40 : decode bX_fit 40 = .ok (.ifCond .le 36, 3) := by decide +kernel
theorem dX_fit_43 : decode bX_fit 43 = .ok (.iload_n 2, 1) := by decide +kernel
theorem dX_fit_44 : decode bX_fit 44 = .ok (.iload_n 3, 1) := by decide +kernel
theorem dX_fit_45 : decode bX_fit 45 = .ok (.isub, 1) := by decide +kernel
theorem dX_fit_46 : decode bX_fit 46 = .ok (.bipush 12, 2) := by decide +kernel
theorem dX_fit_48 : decode bX_fit 48 = .ok (.if_icmp .lt 21, 3) := by decide +kernel
theorem dX_fit_51 : decode bX_fit 51 = .ok (.aload_n 0, 1) := by decide +kernel
theorem dX_fit_52 : decode bX_fit 52 = .ok (.getfield 21, 3) := by decide +kernel
theorem dX_fit_55 : decode bX_fit 55 = .ok (.iload_n 2, 1) := by decide +kernel
theorem dX_fit_56 : decode bX_fit 56 = .ok (.iload_n 3, 1) := by decide +kernel
theorem dX_fit_57 : decode bX_fit 57 = .ok (.isub, 1) := by decide +kernel
theorem dX_fit_58 : decode bX_fit 58 = .ok (.invokevirtual 120, 3) := by decide +kernel
theorem dX_fit_61 : decode bX_fit 61 = .ok (.iload_n 1, 1) := by decide +kernel
theorem dX_fit_62 : decode bX_fit 62 = .ok (.if_icmp .gt 7, 3) := by decide +kernel
theorem dX_fit_65 : decode bX_fit 65 = .ok (.iload_n 2, 1) := by decide +kernel
theorem dX_fit_66 : decode bX_fit 66 = .ok (.iload_n 3, 1) := by decide +kernel
theorem dX_fit_67 : decode bX_fit 67 = .ok (.isub, 1) := by decide +kernel
theorem dX_fit_68 : decode bX_fit 68 = .ok (.istore_n 2, 1) := by decide +kernel
theorem dX_fit_69 : decode bX_fit 69 = .ok (.iload_n 3, 1) := by decide +kernel
theorem dX_fit_70 : decode bX_fit 70 = .ok (.iconst 2, 1) := by decide +kernel
theorem dX_fit_71 : decode bX_fit 71 = .ok (.idiv, 1) := by decide +kernel
theorem dX_fit_72 : decode bX_fit 72 = .ok (.istore_n 3, 1) := by decide +kernel
theorem dX_fit_73 : decode bX_fit 73 = .ok (.goto (-34), 3) := by decide +kernel
theorem dX_fit_76 : decode bX_fit 76 = .ok (.iload_n 2, 1) := by decide +kernel
theorem dX_fit_77 : decode bX_fit 77 = .ok (.ireturn, 1) := by decide +kernel
theorem dX_image_0 : decode bX_image 0 = .ok (.iload_n 1, 1) := by decide +kernel
theorem dX_image_1 : decode bX_image 1 = .ok (.ifCond .lt 8, 3) := by decide +kernel
theorem dX_image_4 : decode bX_image 4 = .ok (.iload_n 1, 1) := by decide +kernel
theorem dX_image_5 : decode bX_image 5 = .ok (.iconst 2, 1) := by decide +kernel
theorem dX_image_6 : decode bX_image 6 = .ok (.if_icmp .lt 6, 3) := by decide +kernel
theorem dX_image_9 : decode bX_image 9 = .ok (.bipush (-2), 2) := by decide +kernel
theorem dX_image_11 : decode bX_image 11 = .ok (.ireturn, 1) := by decide +kernel
theorem dX_image_12 : decode bX_image 12 = .ok (.aload_n 0, 1) := by decide +kernel
theorem dX_image_13 : decode bX_image 13 = .ok (.getfield 32, 3) := by decide +kernel
theorem dX_image_16 : decode bX_image 16 = .ok (.iload_n 1, 1) := by decide +kernel
theorem dX_image_17 : decode bX_image 17 = .ok (.aaload, 1) := by decide +kernel
theorem dX_image_18 : decode bX_image 18 = .ok (.aload_n 0, 1) := by decide +kernel
theorem dX_image_19 : decode bX_image 19 = .ok (.getfield 12, 3) := by decide +kernel
theorem dX_image_22 : decode bX_image 22 = .ok (.invokevirtual 123, 3) := by decide +kernel
theorem dX_image_25 : decode bX_image 25 = .ok (.aload_n 0, 1) := by decide +kernel
theorem dX_image_26 : decode bX_image 26 = .ok (.dup, 1) := by decide +kernel
theorem dX_image_27 : decode bX_image 27 = .ok (.getfield 36, 3) := by decide +kernel
theorem dX_image_30 : decode bX_image 30 = .ok (.iconst 1, 1) := by decide +kernel
theorem dX_image_31 : decode bX_image 31 = .ok (.iload_n 1, 1) := by decide +kernel
theorem dX_image_32 : decode bX_image 32 = .ok (.ishl, 1) := by decide +kernel
theorem dX_image_33 : decode bX_image 33 = .ok (.ior, 1) := by decide +kernel
theorem dX_image_34 : decode bX_image 34 = .ok (.putfield 36, 3) := by decide +kernel
theorem dX_image_37 : decode bX_image 37 = .ok (.iconst 1, 1) := by decide +kernel
theorem dX_image_38 : decode bX_image 38 = .ok (.ireturn, 1) := by decide +kernel
theorem dX_restore_0 : decode bX_restore 0 = .ok (.iload_n 1, 1) := by decide +kernel
theorem dX_restore_1 : decode bX_restore 1 = .ok (.ifCond .lt 8, 3) := by decide +kernel
theorem dX_restore_4 : decode bX_restore 4 = .ok (.iload_n 1, 1) := by decide +kernel
theorem dX_restore_5 : decode bX_restore 5 = .ok (.iconst 2, 1) := by decide +kernel
theorem dX_restore_6 : decode bX_restore 6 = .ok (.if_icmp .lt 6, 3) := by decide +kernel
theorem dX_restore_9 : decode bX_restore 9 = .ok (.bipush (-2), 2) := by decide +kernel
theorem dX_restore_11 : decode bX_restore 11 = .ok (.ireturn, 1) := by decide +kernel
theorem dX_restore_12 : decode bX_restore 12 = .ok (.aload_n 0, 1) := by decide +kernel
theorem dX_restore_13 : decode bX_restore 13 = .ok (.getfield 36, 3) := by decide +kernel
theorem dX_restore_16 : decode bX_restore 16 = .ok (.iload_n 1, 1) := by decide +kernel
theorem dX_restore_17 : decode bX_restore 17 = .ok (.ishr, 1) := by decide +kernel
theorem dX_restore_18 : decode bX_restore 18 = .ok (.iconst 1, 1) := by decide +kernel
theorem dX_restore_19 : decode bX_restore 19 = .ok (.iand, 1) := by decide +kernel
theorem dX_restore_20 : decode bX_restore 20 = .ok (.ifCond .ne 6, 3) := by decide +kernel
theorem dX_restore_23 : decode bX_restore 23 = .ok (.bipush (-3), 2) := by decide +kernel
theorem dX_restore_25 : decode bX_restore 25 = .ok (.ireturn, 1) := by decide +kernel
theorem dX_restore_26 : decode bX_restore 26 = .ok (.aload_n 0, 1) := by decide +kernel
theorem dX_restore_27 : decode bX_restore 27 = .ok (.getfield 12, 3) := by decide +kernel
theorem dX_restore_30 : decode bX_restore 30 = .ok (.aload_n 0, 1) := by decide +kernel
theorem dX_restore_31 : decode bX_restore 31 = .ok (.getfield 32, 3) := by decide +kernel
theorem dX_restore_34 : decode bX_restore 34 = .ok (.iload_n 1, 1) := by decide +kernel
theorem dX_restore_35 : decode bX_restore 35 = .ok (.aaload, 1) := by decide +kernel
theorem dX_restore_36 : decode bX_restore 36 = .ok (.invokevirtual 123, 3) := by decide +kernel
theorem dX_restore_39 : decode bX_restore 39 = .ok (.aload_n 0, 1) := by decide +kernel
theorem dX_restore_40 : decode bX_restore 40 = .ok (.iconst 0, 1) := by decide +kernel
theorem dX_restore_41 : decode bX_restore 41 = .ok (.putfield 40, 3) := by decide +kernel
theorem dX_restore_44 : decode bX_restore 44 = .ok (.iconst 1, 1) := by decide +kernel
theorem dX_restore_45 : decode bX_restore 45 = .ok (.ireturn, 1) := by decide +kernel
theorem dX_count_0 : decode bX_count 0 = .ok (.iload_n 1, 1) := by decide +kernel
theorem dX_count_1 : decode bX_count 1 = .ok (.tableswitch 138 0 12 #[67, 75, 90, 98, 106, 138, 138, 138, 138, 138, 111, 120, 129], 67) := by decide +kernel
theorem dX_count_68 : decode bX_count 68 = .ok (.aload_n 0, 1) := by decide +kernel
theorem dX_count_69 : decode bX_count 69 = .ok (.getfield 12, 3) := by decide +kernel
theorem dX_count_72 : decode bX_count 72 = .ok (.getfield 51, 3) := by decide +kernel
theorem dX_count_75 : decode bX_count 75 = .ok (.ireturn, 1) := by decide +kernel
theorem dX_count_76 : decode bX_count 76 = .ok (.aload_n 0, 1) := by decide +kernel
theorem dX_count_77 : decode bX_count 77 = .ok (.getfield 12, 3) := by decide +kernel
theorem dX_count_80 : decode bX_count 80 = .ok (.aload_n 0, 1) := by decide +kernel
theorem dX_count_81 : decode bX_count 81 = .ok (.getfield 12, 3) := by decide +kernel
theorem dX_count_84 : decode bX_count 84 = .ok (.getfield 51, 3) := by decide +kernel
theorem dX_count_87 : decode bX_count 87 = .ok (.invokevirtual 95, 3) := by decide +kernel
theorem dX_count_90 : decode bX_count 90 = .ok (.ireturn, 1) := by decide +kernel
theorem dX_count_91 : decode bX_count 91 = .ok (.aload_n 0, 1) := by decide +kernel
theorem dX_count_92 : decode bX_count 92 = .ok (.getfield 12, 3) := by decide +kernel
theorem dX_count_95 : decode bX_count 95 = .ok (.getfield 78, 3) := by decide +kernel
theorem dX_count_98 : decode bX_count 98 = .ok (.ireturn, 1) := by decide +kernel
theorem dX_count_99 : decode bX_count 99 = .ok (.aload_n 0, 1) := by decide +kernel
theorem dX_count_100 : decode bX_count 100 = .ok (.getfield 12, 3) := by decide +kernel
theorem dX_count_103 : decode bX_count 103 = .ok (.getfield 81, 3) := by decide +kernel
theorem dX_count_106 : decode bX_count 106 = .ok (.ireturn, 1) := by decide +kernel
theorem dX_count_107 : decode bX_count 107 = .ok (.aload_n 0, 1) := by decide +kernel
theorem dX_count_108 : decode bX_count 108 = .ok (.getfield 36, 3) := by decide +kernel
theorem dX_count_111 : decode bX_count 111 = .ok (.ireturn, 1) := by decide +kernel
theorem dX_count_112 : decode bX_count 112 = .ok (.aload_n 0, 1) := by decide +kernel
theorem dX_count_113 : decode bX_count 113 = .ok (.getfield 12, 3) := by decide +kernel
theorem dX_count_116 : decode bX_count 116 = .ok (.iconst 0, 1) := by decide +kernel
theorem dX_count_117 : decode bX_count 117 = .ok (.invokevirtual 126, 3) := by decide +kernel
theorem dX_count_120 : decode bX_count 120 = .ok (.ireturn, 1) := by decide +kernel
theorem dX_count_121 : decode bX_count 121 = .ok (.aload_n 0, 1) := by decide +kernel
theorem dX_count_122 : decode bX_count 122 = .ok (.getfield 12, 3) := by decide +kernel
theorem dX_count_125 : decode bX_count 125 = .ok (.iconst 1, 1) := by decide +kernel
theorem dX_count_126 : decode bX_count 126 = .ok (.invokevirtual 126, 3) := by decide +kernel
theorem dX_count_129 : decode bX_count 129 = .ok (.ireturn, 1) := by decide +kernel
theorem dX_count_130 : decode bX_count 130 = .ok (.aload_n 0, 1) := by decide +kernel
theorem dX_count_131 : decode bX_count 131 = .ok (.getfield 12, 3) := by decide +kernel
theorem dX_count_134 : decode bX_count 134 = .ok (.iconst 2, 1) := by decide +kernel
theorem dX_count_135 : decode bX_count 135 = .ok (.invokevirtual 126, 3) := by decide +kernel
theorem dX_count_138 : decode bX_count 138 = .ok (.ireturn, 1) := by decide +kernel
theorem dX_count_139 : decode bX_count 139 = .ok (.bipush (-2), 2) := by decide +kernel
theorem dX_count_141 : decode bX_count 141 = .ok (.ireturn, 1) := by decide +kernel
