theorem dS_costUpTo_0 : decode bS_costUpTo 0 = .ok (.iload_n 3, 1) := by decide +kernel
theorem dS_costUpTo_1 : decode bS_costUpTo 1 = .ok (.iload 4, 2) := by decide +kernel
theorem dS_costUpTo_3 : decode bS_costUpTo 3 = .ok (.iload_n 2, 1) := by decide +kernel
theorem dS_costUpTo_4 : decode bS_costUpTo 4 = .ok (.isub, 1) := by decide +kernel
theorem dS_costUpTo_5 : decode bS_costUpTo 5 = .ok (.aload_n 0, 1) := by decide +kernel
theorem dS_costUpTo_6 : decode bS_costUpTo 6 = .ok (.getfield 29, 3) := by decide +kernel
theorem dS_costUpTo_9 : decode bS_costUpTo 9 = .ok (.iload_n 1, 1) := by decide +kernel
theorem dS_costUpTo_10 : decode bS_costUpTo 10 = .ok (.invokevirtual 97, 3) := by decide +kernel
theorem dS_costUpTo_13 : decode bS_costUpTo 13 = .ok (.imul, 1) := by decide +kernel
theorem dS_costUpTo_14 : decode bS_costUpTo 14 = .ok (.iadd, 1) := by decide +kernel
theorem dS_costUpTo_15 : decode bS_costUpTo 15 = .ok (.istore 5, 2) := by decide +kernel
theorem dS_costUpTo_17 : decode bS_costUpTo 17 = .ok (.iload 5, 2) := by decide +kernel
theorem dS_costUpTo_19 : decode bS_costUpTo 19 = .ok (.aload_n 0, 1) := by decide +kernel
theorem dS_costUpTo_20 : decode bS_costUpTo 20 = .ok (.getfield 18, 3) := by decide +kernel
theorem dS_costUpTo_23 : decode bS_costUpTo 23 = .ok (.if_icmp .le 6, 3) := by decide +kernel
theorem dS_costUpTo_26 : decode bS_costUpTo 26 = .ok (.ldc 90, 2) := by decide +kernel
theorem dS_costUpTo_28 : decode bS_costUpTo 28 = .ok (.ireturn, 1) := by decide +kernel
theorem dS_costUpTo_29 : decode bS_costUpTo 29 = .ok (.aload_n 0, 1) := by decide +kernel
theorem dS_costUpTo_30 : decode bS_costUpTo 30 = .ok (.getfield 29, 3) := by decide +kernel
theorem dS_costUpTo_33 : decode bS_costUpTo 33 = .ok (.iload_n 1, 1) := by decide +kernel
theorem dS_costUpTo_34 : decode bS_costUpTo 34 = .ok (.iload_n 3, 1) := by decide +kernel
theorem dS_costUpTo_35 : decode bS_costUpTo 35 = .ok (.invokevirtual 100, 3) := by decide +kernel
theorem dS_costUpTo_38 : decode bS_costUpTo 38 = .ok (.ifCond .eq 14, 3) := by decide +kernel
theorem dS_costUpTo_41 : decode bS_costUpTo 41 = .ok (.iload 4, 2) := by decide +kernel
theorem dS_costUpTo_43 : decode bS_costUpTo 43 = .ok (.iload_n 2, 1) := by decide +kernel
theorem dS_costUpTo_44 : decode bS_costUpTo 44 = .ok (.isub, 1) := by decide +kernel
theorem dS_costUpTo_45 : decode bS_costUpTo 45 = .ok (.sipush 1024, 3) := by decide +kernel
theorem dS_costUpTo_48 : decode bS_costUpTo 48 = .ok (.imul, 1) := by decide +kernel
theorem dS_costUpTo_49 : decode bS_costUpTo 49 = .ok (.goto 4, 3) := by decide +kernel
theorem dS_costUpTo_52 : decode bS_costUpTo 52 = .ok (.iconst 0, 1) := by decide +kernel
theorem dS_costUpTo_53 : decode bS_costUpTo 53 = .ok (.istore 6, 2) := by decide +kernel
theorem dS_costUpTo_55 : decode bS_costUpTo 55 = .ok (.iload 4, 2) := by decide +kernel
theorem dS_costUpTo_57 : decode bS_costUpTo 57 = .ok (.aload_n 0, 1) := by decide +kernel
theorem dS_costUpTo_58 : decode bS_costUpTo 58 = .ok (.getfield 29, 3) := by decide +kernel
theorem dS_costUpTo_61 : decode bS_costUpTo 61 = .ok (.iload_n 1, 1) := by decide +kernel
theorem dS_costUpTo_62 : decode bS_costUpTo 62 = .ok (.invokevirtual 71, 3) := by decide +kernel
theorem dS_costUpTo_65 : decode bS_costUpTo 65 = .ok (.if_icmp .ne 15, 3) := by decide +kernel
theorem dS_costUpTo_68 : decode bS_costUpTo 68 = .ok (.aload_n 0, 1) := by decide +kernel
theorem dS_costUpTo_69 : decode bS_costUpTo 69 = .ok (.iload_n 1, 1) := by decide +kernel
theorem dS_costUpTo_70 : decode bS_costUpTo 70 = .ok (.iconst 1, 1) := by decide +kernel
theorem dS_costUpTo_71 : decode bS_costUpTo 71 = .ok (.iadd, 1) := by decide +kernel
theorem dS_costUpTo_72 : decode bS_costUpTo 72 = .ok (.iload 5, 2) := by decide +kernel
theorem dS_costUpTo_74 : decode bS_costUpTo 74 = .ok (.invokevirtual 54, 3) := by decide +kernel
theorem dS_costUpTo_77 : decode bS_costUpTo 77 = .ok (.goto 15, 3) := by decide +kernel
theorem dS_costUpTo_80 : decode bS_costUpTo 80 = .ok (.aload_n 0, 1) := by decide +kernel
theorem dS_costUpTo_81 : decode bS_costUpTo 81 = .ok (.getfield 15, 3) := by decide +kernel
theorem dS_costUpTo_84 : decode bS_costUpTo 84 = .ok (.iload_n 1, 1) := by decide +kernel
theorem dS_costUpTo_85 : decode bS_costUpTo 85 = .ok (.bipush 12, 2) := by decide +kernel
theorem dS_costUpTo_87 : decode bS_costUpTo 87 = .ok (.imul, 1) := by decide +kernel
theorem dS_costUpTo_88 : decode bS_costUpTo 88 = .ok (.iload 4, 2) := by decide +kernel
theorem dS_costUpTo_90 : decode bS_costUpTo 90 = .ok (.iadd, 1) := by decide +kernel
theorem dS_costUpTo_91 : decode bS_costUpTo 91 = .ok (.iaload, 1) := by decide +kernel
theorem dS_costUpTo_92 : decode bS_costUpTo 92 = .ok (.istore 7, 2) := by decide +kernel
theorem dS_costUpTo_94 : decode bS_costUpTo 94 = .ok (.ldc 90, 2) := by decide +kernel
theorem dS_costUpTo_96 : decode bS_costUpTo 96 = .ok (.iload 6, 2) := by decide +kernel
theorem dS_costUpTo_98 : decode bS_costUpTo 98 = .ok (.iload 7, 2) := by decide +kernel
theorem dS_costUpTo_100 : decode bS_costUpTo 100 = .ok (.iadd, 1) := by decide +kernel
theorem dS_costUpTo_101 : decode bS_costUpTo 101 = .ok (.invokestatic 82, 3) := by decide +kernel
theorem dS_costUpTo_104 : decode bS_costUpTo 104 = .ok (.ireturn, 1) := by decide +kernel
theorem dS_costFrom_0 : decode bS_costFrom 0 = .ok (.aload_n 0, 1) := by decide +kernel
theorem dS_costFrom_1 : decode bS_costFrom 1 = .ok (.getfield 29, 3) := by decide +kernel
theorem dS_costFrom_4 : decode bS_costFrom 4 = .ok (.iload_n 1, 1) := by decide +kernel
theorem dS_costFrom_5 : decode bS_costFrom 5 = .ok (.invokevirtual 71, 3) := by decide +kernel
theorem dS_costFrom_8 : decode bS_costFrom 8 = .ok (.istore 4, 2) := by decide +kernel
theorem dS_costFrom_10 : decode bS_costFrom 10 = .ok (.aload_n 0, 1) := by decide +kernel
theorem dS_costFrom_11 : decode bS_costFrom 11 = .ok (.iload_n 1, 1) := by decide +kernel
theorem dS_costFrom_12 : decode bS_costFrom 12 = .ok (.iload_n 2, 1) := by decide +kernel
theorem dS_costFrom_13 : decode bS_costFrom 13 = .ok (.iload_n 3, 1) := by decide +kernel
theorem dS_costFrom_14 : decode bS_costFrom 14 = .ok (.iload 4, 2) := by decide +kernel
theorem dS_costFrom_16 : decode bS_costFrom 16 = .ok (.invokevirtual 75, 3) := by decide +kernel
theorem dS_costFrom_19 : decode bS_costFrom 19 = .ok (.istore 5, 2) := by decide +kernel
theorem dS_costFrom_21 : decode bS_costFrom 21 = .ok (.iload 4, 2) := by decide +kernel
theorem dS_costFrom_23 : decode bS_costFrom 23 = .ok (.iconst 2, 1) := by decide +kernel
theorem dS_costFrom_24 : decode bS_costFrom 24 = .ok (.isub, 1) := by decide +kernel
theorem dS_costFrom_25 : decode bS_costFrom 25 = .ok (.istore 6, 2) := by decide +kernel
theorem dS_costFrom_27 : decode bS_costFrom 27 = .ok (.iload 6, 2) := by decide +kernel
theorem dS_costFrom_29 : decode bS_costFrom 29 = .ok (.iload_n 2, 1) := by decide +kernel
theorem dS_costFrom_30 : decode bS_costFrom 30 = .ok (.iconst 2, 1) := by decide +kernel
theorem dS_costFrom_31 : decode bS_costFrom 31 = .ok (.iadd, 1) := by decide +kernel
theorem dS_costFrom_32 : decode bS_costFrom 32 = .ok (.if_icmp .lt 25, 3) := by decide +kernel
theorem dS_costFrom_35 : decode bS_costFrom 35 = .ok (.iload 5, 2) := by decide +kernel
theorem dS_costFrom_37 : decode bS_costFrom 37 = .ok (.aload_n 0, 1) := by decide +kernel
theorem dS_costFrom_38 : decode bS_costFrom 38 = .ok (.iload_n 1, 1) := by decide +kernel
theorem dS_costFrom_39 : decode bS_costFrom 39 = .ok (.iload_n 2, 1) := by decide +kernel
theorem dS_costFrom_40 : decode bS_costFrom 40 = .ok (.iload_n 3, 1) := by decide +kernel
theorem dS_costFrom_41 : decode bS_costFrom 41 = .ok (.iload 6, 2) := by decide +kernel
theorem dS_costFrom_43 : decode bS_costFrom 43 = .ok (.invokevirtual 75, 3) := by decide +kernel
theorem dS_costFrom_46 : decode bS_costFrom 46 = .ok (.invokestatic 82, 3) := by decide +kernel
theorem dS_costFrom_49 : decode bS_costFrom 49 = .ok (.istore 5, 2) := by decide +kernel
theorem dS_costFrom_51 : decode bS_costFrom 51 = .ok (.iinc 6 (-1), 3) := by decide +kernel
theorem dS_costFrom_54 : decode bS_costFrom 54 = .ok (.goto (-27), 3) := by decide +kernel
theorem dS_costFrom_57 : decode bS_costFrom 57 = .ok (.iload 5, 2) := by decide +kernel
theorem dS_costFrom_59 : decode bS_costFrom 59 = .ok (.ireturn, 1) := by decide +kernel
theorem dS_weighOnTop_0 : decode bS_weighOnTop 0 = .ok (.aload_n 0, 1) := by decide +kernel
theorem dS_weighOnTop_1 : decode bS_weighOnTop 1 = .ok (.getfield 15, 3) := by decide +kernel
theorem dS_weighOnTop_4 : decode bS_weighOnTop 4 = .ok (.iload_n 1, 1) := by decide +kernel
theorem dS_weighOnTop_5 : decode bS_weighOnTop 5 = .ok (.bipush 12, 2) := by decide +kernel
theorem dS_weighOnTop_7 : decode bS_weighOnTop 7 = .ok (.imul, 1) := by decide +kernel
theorem dS_weighOnTop_8 : decode bS_weighOnTop 8 = .ok (.iaload, 1) := by decide +kernel
theorem dS_weighOnTop_9 : decode bS_weighOnTop 9 = .ok (.iconst (-1), 1) := by decide +kernel
theorem dS_weighOnTop_10 : decode bS_weighOnTop 10 = .ok (.if_icmp .eq 4, 3) := by decide +kernel
theorem dS_weighOnTop_13 : decode bS_weighOnTop 13 = .ok (.return_, 1) := by decide +kernel
theorem dS_weighOnTop_14 : decode bS_weighOnTop 14 = .ok (.iconst 0, 1) := by decide +kernel
theorem dS_weighOnTop_15 : decode bS_weighOnTop 15 = .ok (.aload_n 0, 1) := by decide +kernel
theorem dS_weighOnTop_16 : decode bS_weighOnTop 16 = .ok (.getfield 29, 3) := by decide +kernel
theorem dS_weighOnTop_19 : decode bS_weighOnTop 19 = .ok (.iload_n 1, 1) := by decide +kernel
theorem dS_weighOnTop_20 : decode bS_weighOnTop 20 = .ok (.invokevirtual 71, 3) := by decide +kernel
theorem dS_weighOnTop_23 : decode bS_weighOnTop 23 = .ok (.iconst 2, 1) := by decide +kernel
theorem dS_weighOnTop_24 : decode bS_weighOnTop 24 = .ok (.isub, 1) := by decide +kernel
theorem dS_weighOnTop_25 : decode bS_weighOnTop 25 = .ok (.invokestatic 87, 3) := by decide +kernel
theorem dS_weighOnTop_28 : decode bS_weighOnTop 28 = .ok (.istore_n 2, 1) := by decide +kernel
theorem dS_weighOnTop_29 : decode bS_weighOnTop 29 = .ok (.iload_n 2, 1) := by decide +kernel
theorem dS_weighOnTop_30 : decode bS_weighOnTop 30 = .ok (.ifCond .lt 35, 3) := by decide +kernel
theorem dS_weighOnTop_33 : decode bS_weighOnTop 33 = .ok (.aload_n 0, 1) := by decide +kernel
theorem dS_weighOnTop_34 : decode bS_weighOnTop 34 = .ok (.getfield 15, 3) := by decide +kernel
theorem dS_weighOnTop_37 : decode bS_weighOnTop 37 = .ok (.iload_n 1, 1) := by decide +kernel
theorem dS_weighOnTop_38 : decode bS_weighOnTop 38 = .ok (.bipush 12, 2) := by decide +kernel
theorem dS_weighOnTop_40 : decode bS_weighOnTop 40 = .ok (.imul, 1) := by decide +kernel
theorem dS_weighOnTop_41 : decode bS_weighOnTop 41 = .ok (.iload_n 2, 1) := by decide +kernel
theorem dS_weighOnTop_42 : decode bS_weighOnTop 42 = .ok (.iadd, 1) := by decide +kernel
theorem dS_weighOnTop_43 : decode bS_weighOnTop 43 = .ok (.ldc 90, 2) := by decide +kernel
theorem dS_weighOnTop_45 : decode bS_weighOnTop 45 = .ok (.ldc 40, 2) := by decide +kernel
theorem dS_weighOnTop_47 : decode bS_weighOnTop 47 = .ok (.aload_n 0, 1) := by decide +kernel
theorem dS_weighOnTop_48 : decode bS_weighOnTop 48 = .ok (.iload_n 1, 1) := by decide +kernel
theorem dS_weighOnTop_49 : decode bS_weighOnTop 49 = .ok (.iload_n 2, 1) := by decide +kernel
theorem dS_weighOnTop_50 : decode bS_weighOnTop 50 = .ok (.iconst 0, 1) := by decide +kernel
theorem dS_weighOnTop_51 : decode bS_weighOnTop 51 = .ok (.invokevirtual 67, 3) := by decide +kernel
theorem dS_weighOnTop_54 : decode bS_weighOnTop 54 = .ok (.iadd, 1) := by decide +kernel
theorem dS_weighOnTop_55 : decode bS_weighOnTop 55 = .ok (.invokestatic 82, 3) := by decide +kernel
theorem dS_weighOnTop_58 : decode bS_weighOnTop 58 = .ok (.iastore, 1) := by decide +kernel
theorem dS_weighOnTop_59 : decode bS_weighOnTop 59 = .ok (.iinc 2 (-1), 3) := by decide +kernel
theorem dS_weighOnTop_62 : decode bS_weighOnTop 62 = .ok (.goto (-33), 3) := by decide +kernel
theorem dS_weighOnTop_65 : decode bS_weighOnTop 65 = .ok (.return_, 1) := by decide +kernel
theorem dS_mostRoom_0 : decode bS_mostRoom 0 = .ok (.iload_n 1, 1) := by decide +kernel
theorem dS_mostRoom_1 : decode bS_mostRoom 1 = .ok (.aload_n 0, 1) := by decide +kernel
theorem dS_mostRoom_2 : decode bS_mostRoom 2 = .ok (.getfield 22, 3) := by decide +kernel
theorem dS_mostRoom_5 : decode bS_mostRoom 5 = .ok (.if_icmp .ne 8, 3) := by decide +kernel
theorem dS_mostRoom_8 : decode bS_mostRoom 8 = .ok (.bipush 30, 2) := by decide +kernel
theorem dS_mostRoom_10 : decode bS_mostRoom 10 = .ok (.goto 12, 3) := by decide +kernel
theorem dS_mostRoom_13 : decode bS_mostRoom 13 = .ok (.aload_n 0, 1) := by decide +kernel
theorem dS_mostRoom_14 : decode bS_mostRoom 14 = .ok (.getfield 29, 3) := by decide +kernel
theorem dS_mostRoom_17 : decode bS_mostRoom 17 = .ok (.getfield 94, 3) := by decide +kernel
theorem dS_mostRoom_20 : decode bS_mostRoom 20 = .ok (.iload_n 1, 1) := by decide +kernel
theorem dS_mostRoom_21 : decode bS_mostRoom 21 = .ok (.iaload, 1) := by decide +kernel
theorem dS_mostRoom_22 : decode bS_mostRoom 22 = .ok (.istore_n 3, 1) := by decide +kernel
theorem dS_mostRoom_23 : decode bS_mostRoom 23 = .ok (.aload_n 0, 1) := by decide +kernel
theorem dS_mostRoom_24 : decode bS_mostRoom 24 = .ok (.getfield 25, 3) := by decide +kernel
theorem dS_mostRoom_27 : decode bS_mostRoom 27 = .ok (.ifCond .eq 13, 3) := by decide +kernel
theorem dS_mostRoom_30 : decode bS_mostRoom 30 = .ok (.aload_n 0, 1) := by decide +kernel
theorem dS_mostRoom_31 : decode bS_mostRoom 31 = .ok (.getfield 29, 3) := by decide +kernel
theorem dS_mostRoom_34 : decode bS_mostRoom 34 = .ok (.getfield 64, 3) := by decide +kernel
theorem dS_mostRoom_37 : decode bS_mostRoom 37 = .ok (.iload_n 1, 1) := by decide +kernel
theorem dS_mostRoom_38 : decode bS_mostRoom 38 = .ok (.iaload, 1) := by decide +kernel
theorem dS_mostRoom_39 : decode bS_mostRoom 39 = .ok (.istore_n 3, 1) := by decide +kernel
theorem dS_mostRoom_40 : decode bS_mostRoom 40 = .ok (.iload_n 3, 1) := by decide +kernel
theorem dS_mostRoom_41 : decode bS_mostRoom 41 = .ok (.aload_n 0, 1) := by decide +kernel
theorem dS_mostRoom_42 : decode bS_mostRoom 42 = .ok (.getfield 18, 3) := by decide +kernel
theorem dS_mostRoom_45 : decode bS_mostRoom 45 = .ok (.aload_n 0, 1) := by decide +kernel
theorem dS_mostRoom_46 : decode bS_mostRoom 46 = .ok (.getfield 29, 3) := by decide +kernel
theorem dS_mostRoom_49 : decode bS_mostRoom 49 = .ok (.iload_n 1, 1) := by decide +kernel
theorem dS_mostRoom_50 : decode bS_mostRoom 50 = .ok (.invokevirtual 97, 3) := by decide +kernel
theorem dS_mostRoom_53 : decode bS_mostRoom 53 = .ok (.isub, 1) := by decide +kernel
theorem dS_mostRoom_54 : decode bS_mostRoom 54 = .ok (.iload_n 2, 1) := by decide +kernel
theorem dS_mostRoom_55 : decode bS_mostRoom 55 = .ok (.isub, 1) := by decide +kernel
theorem dS_mostRoom_56 : decode bS_mostRoom 56 = .ok (.invokestatic 82, 3) := by decide +kernel
theorem dS_mostRoom_59 : decode bS_mostRoom 59 = .ok (.ireturn, 1) := by decide +kernel
theorem dS_costWithin_0 : decode bS_costWithin 0 = .ok (.aload_n 0, 1) := by decide +kernel
theorem dS_costWithin_1 : decode bS_costWithin 1 = .ok (.getfield 29, 3) := by decide +kernel
theorem dS_costWithin_4 : decode bS_costWithin 4 = .ok (.getfield 79, 3) := by decide +kernel
theorem dS_costWithin_7 : decode bS_costWithin 7 = .ok (.iload_n 1, 1) := by decide +kernel
theorem dS_costWithin_8 : decode bS_costWithin 8 = .ok (.iaload, 1) := by decide +kernel
theorem dS_costWithin_9 : decode bS_costWithin 9 = .ok (.ifCond .ne 11, 3) := by decide +kernel
theorem dS_costWithin_12 : decode bS_costWithin 12 = .ok (.aload_n 0, 1) := by decide +kernel
theorem dS_costWithin_13 : decode bS_costWithin 13 = .ok (.iload_n 1, 1) := by decide +kernel
theorem dS_costWithin_14 : decode bS_costWithin 14 = .ok (.iconst 0, 1) := by decide +kernel
theorem dS_costWithin_15 : decode bS_costWithin 15 = .ok (.iload_n 2, 1) := by decide +kernel
theorem dS_costWithin_16 : decode bS_costWithin 16 = .ok (.invokevirtual 67, 3) := by decide +kernel
theorem dS_costWithin_19 : decode bS_costWithin 19 = .ok (.ireturn, 1) := by decide +kernel
theorem dS_costWithin_20 : decode bS_costWithin 20 = .ok (.ldc 90, 2) := by decide +kernel
theorem dS_costWithin_22 : decode bS_costWithin 22 = .ok (.istore_n 3, 1) := by decide +kernel
theorem dS_costWithin_23 : decode bS_costWithin 23 = .ok (.aload_n 0, 1) := by decide +kernel
theorem dS_costWithin_24 : decode bS_costWithin 24 = .ok (.iload_n 1, 1) := by decide +kernel
theorem dS_costWithin_25 : decode bS_costWithin 25 = .ok (.iload_n 2, 1) := by decide +kernel
theorem dS_costWithin_26 : decode bS_costWithin 26 = .ok (.invokevirtual 61, 3) := by decide +kernel
theorem dS_costWithin_29 : decode bS_costWithin 29 = .ok (.istore 4, 2) := by decide +kernel
theorem dS_costWithin_31 : decode bS_costWithin 31 = .ok (.iload_n 2, 1) := by decide +kernel
theorem dS_costWithin_32 : decode bS_costWithin 32 = .ok (.aload_n 0, 1) := by decide +kernel
theorem dS_costWithin_33 : decode bS_costWithin 33 = .ok (.getfield 29, 3) := by decide +kernel
theorem dS_costWithin_36 : decode bS_costWithin 36 = .ok (.getfield 91, 3) := by decide +kernel
theorem dS_costWithin_39 : decode bS_costWithin 39 = .ok (.iload_n 1, 1) := by decide +kernel
theorem dS_costWithin_40 : decode bS_costWithin 40 = .ok (.iaload, 1) := by decide +kernel
theorem dS_costWithin_41 : decode bS_costWithin 41 = .ok (.iadd, 1) := by decide +kernel
theorem dS_costWithin_42 : decode bS_costWithin 42 = .ok (.istore 5, 2) := by decide +kernel
theorem dS_costWithin_44 : decode bS_costWithin 44 = .ok (.aload_n 0, 1) := by decide +kernel
theorem dS_costWithin_45 : decode bS_costWithin 45 = .ok (.getfield 29, 3) := by decide +kernel
theorem dS_costWithin_48 : decode bS_costWithin 48 = .ok (.getfield 64, 3) := by decide +kernel
theorem dS_costWithin_51 : decode bS_costWithin 51 = .ok (.iload_n 1, 1) := by decide +kernel
theorem dS_costWithin_52 : decode bS_costWithin 52 = .ok (.iaload, 1) := by decide +kernel
theorem dS_costWithin_53 : decode bS_costWithin 53 = .ok (.istore 6, 2) := by decide +kernel
theorem dS_costWithin_55 : decode bS_costWithin 55 = .ok (.iload 6, 2) := by decide +kernel
theorem dS_costWithin_57 : decode bS_costWithin 57 = .ok (.iload 4, 2) := by decide +kernel
theorem dS_costWithin_59 : decode bS_costWithin 59 = .ok (.if_icmp .gt 29, 3) := by decide +kernel
theorem dS_costWithin_62 : decode bS_costWithin 62 = .ok (.iload_n 3, 1) := by decide +kernel
theorem dS_costWithin_63 : decode bS_costWithin 63 = .ok (.iload 6, 2) := by decide +kernel
theorem dS_costWithin_65 : decode bS_costWithin 65 = .ok (.aload_n 0, 1) := by decide +kernel
theorem dS_costWithin_66 : decode bS_costWithin 66 = .ok (.iload_n 1, 1) := by decide +kernel
theorem dS_costWithin_67 : decode bS_costWithin 67 = .ok (.iconst 1, 1) := by decide +kernel
theorem dS_costWithin_68 : decode bS_costWithin 68 = .ok (.iadd, 1) := by decide +kernel
theorem dS_costWithin_69 : decode bS_costWithin 69 = .ok (.iload 5, 2) := by decide +kernel
theorem dS_costWithin_71 : decode bS_costWithin 71 = .ok (.iload 6, 2) := by decide +kernel
theorem dS_costWithin_73 : decode bS_costWithin 73 = .ok (.iadd, 1) := by decide +kernel
theorem dS_costWithin_74 : decode bS_costWithin 74 = .ok (.invokevirtual 54, 3) := by decide +kernel
theorem dS_costWithin_77 : decode bS_costWithin 77 = .ok (.iadd, 1) := by decide +kernel
theorem dS_costWithin_78 : decode bS_costWithin 78 = .ok (.invokestatic 82, 3) := by decide +kernel
theorem dS_costWithin_81 : decode bS_costWithin 81 = .ok (.istore_n 3, 1) := by decide +kernel
theorem dS_costWithin_82 : decode bS_costWithin 82 = .ok (.iinc 6 1, 3) := by decide +kernel
theorem dS_costWithin_85 : decode bS_costWithin 85 = .ok (.goto (-30), 3) := by decide +kernel
theorem dS_costWithin_88 : decode bS_costWithin 88 = .ok (.iload_n 3, 1) := by decide +kernel
theorem dS_costWithin_89 : decode bS_costWithin 89 = .ok (.ireturn, 1) := by decide +kernel
theorem dS_costBehind_0 : decode bS_costBehind 0 = .ok (.iload_n 1, 1) := by decide +kernel
theorem dS_costBehind_1 : decode bS_costBehind 1 = .ok (.aload_n 0, 1) := by decide +kernel
theorem dS_costBehind_2 : decode bS_costBehind 2 = .ok (.getfield 29, 3) := by decide +kernel
theorem dS_costBehind_5 : decode bS_costBehind 5 = .ok (.getfield 41, 3) := by decide +kernel
theorem dS_costBehind_8 : decode bS_costBehind 8 = .ok (.if_icmp .lt 5, 3) := by decide +kernel
theorem dS_costBehind_11 : decode bS_costBehind 11 = .ok (.iconst 0, 1) := by decide +kernel
theorem dS_costBehind_12 : decode bS_costBehind 12 = .ok (.ireturn, 1) := by decide +kernel
theorem dS_costBehind_13 : decode bS_costBehind 13 = .ok (.iload_n 1, 1) := by decide +kernel
theorem dS_costBehind_14 : decode bS_costBehind 14 = .ok (.sipush 201, 3) := by decide +kernel
theorem dS_costBehind_17 : decode bS_costBehind 17 = .ok (.imul, 1) := by decide +kernel
theorem dS_costBehind_18 : decode bS_costBehind 18 = .ok (.iload_n 2, 1) := by decide +kernel
theorem dS_costBehind_19 : decode bS_costBehind 19 = .ok (.iadd, 1) := by decide +kernel
theorem dS_costBehind_20 : decode bS_costBehind 20 = .ok (.istore_n 3, 1) := by decide +kernel
theorem dS_costBehind_21 : decode bS_costBehind 21 = .ok (.aload_n 0, 1) := by decide +kernel
theorem dS_costBehind_22 : decode bS_costBehind 22 = .ok (.getfield 11, 3) := by decide +kernel
theorem dS_costBehind_25 : decode bS_costBehind 25 = .ok (.iload_n 3, 1) := by decide +kernel
theorem dS_costBehind_26 : decode bS_costBehind 26 = .ok (.iaload, 1) := by decide +kernel
theorem dS_costBehind_27 : decode bS_costBehind 27 = .ok (.iconst (-1), 1) := by decide +kernel
theorem dS_costBehind_28 : decode bS_costBehind 28 = .ok (.if_icmp .ne 59, 3) := by decide +kernel
theorem dS_costBehind_31 : decode bS_costBehind 31 = .ok (.aload_n 0, 1) := by decide +kernel
theorem dS_costBehind_32 : decode bS_costBehind 32 = .ok (.iload_n 1, 1) := by decide +kernel
theorem dS_costBehind_33 : decode bS_costBehind 33 = .ok (.invokevirtual 50, 3) := by decide +kernel
theorem dS_costBehind_36 : decode bS_costBehind 36 = .ok (.aload_n 0, 1) := by decide +kernel
theorem dS_costBehind_37 : decode bS_costBehind 37 = .ok (.iload_n 1, 1) := by decide +kernel
theorem dS_costBehind_38 : decode bS_costBehind 38 = .ok (.iload_n 2, 1) := by decide +kernel
theorem dS_costBehind_39 : decode bS_costBehind 39 = .ok (.invokevirtual 58, 3) := by decide +kernel
theorem dS_costBehind_42 : decode bS_costBehind 42 = .ok (.istore 4, 2) := by decide +kernel
theorem dS_costBehind_44 : decode bS_costBehind 44 = .ok (.iload_n 1, 1) := by decide +kernel
theorem dS_costBehind_45 : decode bS_costBehind 45 = .ok (.ifCond .eq 18, 3) := by decide +kernel
theorem dS_costBehind_48 : decode bS_costBehind 48 = .ok (.aload_n 0, 1) := by decide +kernel
theorem dS_costBehind_49 : decode bS_costBehind 49 = .ok (.getfield 29, 3) := by decide +kernel
theorem dS_costBehind_52 : decode bS_costBehind 52 = .ok (.getfield 79, 3) := by decide +kernel
theorem dS_costBehind_55 : decode bS_costBehind 55 = .ok (.iload_n 1, 1) := by decide +kernel
theorem dS_costBehind_56 : decode bS_costBehind 56 = .ok (.iconst 1, 1) := by decide +kernel
theorem dS_costBehind_57 : decode bS_costBehind 57 = .ok (.isub, 1) := by decide +kernel
theorem dS_costBehind_58 : decode bS_costBehind 58 = .ok (.iaload, 1) := by decide +kernel
theorem dS_costBehind_59 : decode bS_costBehind 59 = .ok (.iconst 1, 1) := by decide +kernel
theorem dS_costBehind_60 : decode bS_costBehind 60 = .ok (.if_icmp .eq 19, 3) := by decide +kernel
theorem dS_costBehind_63 : decode bS_costBehind 63 = .ok (.iload 4, 2) := by decide +kernel
theorem dS_costBehind_65 : decode bS_costBehind 65 = .ok (.aload_n 0, 1) := by decide +kernel
theorem dS_costBehind_66 : decode bS_costBehind 66 = .ok (.getfield 15, 3) := by decide +kernel
theorem dS_costBehind_69 : decode bS_costBehind 69 = .ok (.iload_n 1, 1) := by decide +kernel
theorem dS_costBehind_70 : decode bS_costBehind 70 = .ok (.bipush 12, 2) := by decide +kernel
theorem dS_costBehind_72 : decode bS_costBehind 72 = .ok (.imul, 1) := by decide +kernel
theorem dS_costBehind_73 : decode bS_costBehind 73 = .ok (.iaload, 1) := by decide +kernel
theorem dS_costBehind_74 : decode bS_costBehind 74 = .ok (.invokestatic 82, 3) := by decide +kernel
theorem dS_costBehind_77 : decode bS_costBehind 77 = .ok (.istore 4, 2) := by decide +kernel
theorem dS_costBehind_79 : decode bS_costBehind 79 = .ok (.aload_n 0, 1) := by decide +kernel
theorem dS_costBehind_80 : decode bS_costBehind 80 = .ok (.getfield 11, 3) := by decide +kernel
theorem dS_costBehind_83 : decode bS_costBehind 83 = .ok (.iload_n 3, 1) := by decide +kernel
theorem dS_costBehind_84 : decode bS_costBehind 84 = .ok (.iload 4, 2) := by decide +kernel
theorem dS_costBehind_86 : decode bS_costBehind 86 = .ok (.iastore, 1) := by decide +kernel
theorem dS_costBehind_87 : decode bS_costBehind 87 = .ok (.aload_n 0, 1) := by decide +kernel
theorem dS_costBehind_88 : decode bS_costBehind 88 = .ok (.getfield 11, 3) := by decide +kernel
theorem dS_costBehind_91 : decode bS_costBehind 91 = .ok (.iload_n 3, 1) := by decide +kernel
theorem dS_costBehind_92 : decode bS_costBehind 92 = .ok (.iaload, 1) := by decide +kernel
theorem dS_costBehind_93 : decode bS_costBehind 93 = .ok (.ireturn, 1) := by decide +kernel
theorem dS_costOfAll_0 : decode bS_costOfAll 0 = .ok (.aload_n 0, 1) := by decide +kernel
theorem dS_costOfAll_1 : decode bS_costOfAll 1 = .ok (.getfield 29, 3) := by decide +kernel
theorem dS_costOfAll_4 : decode bS_costOfAll 4 = .ok (.getfield 41, 3) := by decide +kernel
theorem dS_costOfAll_7 : decode bS_costOfAll 7 = .ok (.ifCond .ne 5, 3) := by decide +kernel
theorem dS_costOfAll_10 : decode bS_costOfAll 10 = .ok (.iconst 0, 1) := by decide +kernel
theorem dS_costOfAll_11 : decode bS_costOfAll 11 = .ok (.ireturn, 1) := by decide +kernel
theorem dS_costOfAll_12 : decode bS_costOfAll 12 = .ok (.aload_n 0, 1) := by decide +kernel
theorem dS_costOfAll_13 : decode bS_costOfAll 13 = .ok (.getfield 11, 3) := by decide +kernel
theorem dS_costOfAll_16 : decode bS_costOfAll 16 = .ok (.iconst (-1), 1) := by decide +kernel
theorem dS_costOfAll_17 : decode bS_costOfAll 17 = .ok (.invokestatic 44, 3) := by decide +kernel
theorem dS_costOfAll_20 : decode bS_costOfAll 20 = .ok (.aload_n 0, 1) := by decide +kernel
theorem dS_costOfAll_21 : decode bS_costOfAll 21 = .ok (.getfield 15, 3) := by decide +kernel
theorem dS_costOfAll_24 : decode bS_costOfAll 24 = .ok (.iconst (-1), 1) := by decide +kernel
theorem dS_costOfAll_25 : decode bS_costOfAll 25 = .ok (.invokestatic 44, 3) := by decide +kernel
theorem dS_costOfAll_28 : decode bS_costOfAll 28 = .ok (.aload_n 0, 1) := by decide +kernel
theorem dS_costOfAll_29 : decode bS_costOfAll 29 = .ok (.iconst 0, 1) := by decide +kernel
theorem dS_costOfAll_30 : decode bS_costOfAll 30 = .ok (.invokevirtual 50, 3) := by decide +kernel
theorem dS_costOfAll_33 : decode bS_costOfAll 33 = .ok (.aload_n 0, 1) := by decide +kernel
theorem dS_costOfAll_34 : decode bS_costOfAll 34 = .ok (.getfield 15, 3) := by decide +kernel
theorem dS_costOfAll_37 : decode bS_costOfAll 37 = .ok (.iconst 0, 1) := by decide +kernel
theorem dS_costOfAll_38 : decode bS_costOfAll 38 = .ok (.iaload, 1) := by decide +kernel
theorem dS_costOfAll_39 : decode bS_costOfAll 39 = .ok (.ireturn, 1) := by decide +kernel
theorem dS_weigh_0 : decode bS_weigh 0 = .ok (.aload_n 0, 1) := by decide +kernel
theorem dS_weigh_1 : decode bS_weigh 1 = .ok (.aload_n 0, 1) := by decide +kernel
theorem dS_weigh_2 : decode bS_weigh 2 = .ok (.getfield 29, 3) := by decide +kernel
theorem dS_weigh_5 : decode bS_weigh 5 = .ok (.getfield 33, 3) := by decide +kernel
theorem dS_weigh_8 : decode bS_weigh 8 = .ok (.putfield 18, 3) := by decide +kernel
theorem dS_weigh_11 : decode bS_weigh 11 = .ok (.aload_n 0, 1) := by decide +kernel
theorem dS_weigh_12 : decode bS_weigh 12 = .ok (.iload_n 1, 1) := by decide +kernel
theorem dS_weigh_13 : decode bS_weigh 13 = .ok (.putfield 22, 3) := by decide +kernel
theorem dS_weigh_16 : decode bS_weigh 16 = .ok (.aload_n 0, 1) := by decide +kernel
theorem dS_weigh_17 : decode bS_weigh 17 = .ok (.iconst 0, 1) := by decide +kernel
theorem dS_weigh_18 : decode bS_weigh 18 = .ok (.putfield 25, 3) := by decide +kernel
theorem dS_weigh_21 : decode bS_weigh 21 = .ok (.aload_n 0, 1) := by decide +kernel
theorem dS_weigh_22 : decode bS_weigh 22 = .ok (.invokevirtual 36, 3) := by decide +kernel
theorem dS_weigh_25 : decode bS_weigh 25 = .ok (.ireturn, 1) := by decide +kernel
theorem dS_opens_0 : decode bS_opens 0 = .ok (.iload_n 1, 1) := by decide +kernel
theorem dS_opens_1 : decode bS_opens 1 = .ok (.ifCond .eq 18, 3) := by decide +kernel
theorem dS_opens_4 : decode bS_opens 4 = .ok (.aload_n 0, 1) := by decide +kernel
theorem dS_opens_5 : decode bS_opens 5 = .ok (.iload_n 1, 1) := by decide +kernel
theorem dS_opens_6 : decode bS_opens 6 = .ok (.iload_n 2, 1) := by decide +kernel
theorem dS_opens_7 : decode bS_opens 7 = .ok (.invokevirtual 54, 3) := by decide +kernel
theorem dS_opens_10 : decode bS_opens 10 = .ok (.aload_n 0, 1) := by decide +kernel
theorem dS_opens_11 : decode bS_opens 11 = .ok (.iload_n 1, 1) := by decide +kernel
theorem dS_opens_12 : decode bS_opens 12 = .ok (.iload_n 2, 1) := by decide +kernel
theorem dS_opens_13 : decode bS_opens 13 = .ok (.invokevirtual 58, 3) := by decide +kernel
theorem dS_opens_16 : decode bS_opens 16 = .ok (.if_icmp .ge 7, 3) := by decide +kernel
theorem dS_opens_19 : decode bS_opens 19 = .ok (.iconst 1, 1) := by decide +kernel
theorem dS_opens_20 : decode bS_opens 20 = .ok (.goto 4, 3) := by decide +kernel
theorem dS_opens_23 : decode bS_opens 23 = .ok (.iconst 0, 1) := by decide +kernel
theorem dS_opens_24 : decode bS_opens 24 = .ok (.ireturn, 1) := by decide +kernel
theorem dS_breakBehind_0 : decode bS_breakBehind 0 = .ok (.aload_n 0, 1) := by decide +kernel
theorem dS_breakBehind_1 : decode bS_breakBehind 1 = .ok (.getfield 29, 3) := by decide +kernel
theorem dS_breakBehind_4 : decode bS_breakBehind 4 = .ok (.iload_n 1, 1) := by decide +kernel
theorem dS_breakBehind_5 : decode bS_breakBehind 5 = .ok (.invokevirtual 71, 3) := by decide +kernel
theorem dS_breakBehind_8 : decode bS_breakBehind 8 = .ok (.istore 4, 2) := by decide +kernel
theorem dS_breakBehind_10 : decode bS_breakBehind 10 = .ok (.aload_n 0, 1) := by decide +kernel
theorem dS_breakBehind_11 : decode bS_breakBehind 11 = .ok (.iload_n 1, 1) := by decide +kernel
theorem dS_breakBehind_12 : decode bS_breakBehind 12 = .ok (.iload_n 2, 1) := by decide +kernel
theorem dS_breakBehind_13 : decode bS_breakBehind 13 = .ok (.iload_n 3, 1) := by decide +kernel
theorem dS_breakBehind_14 : decode bS_breakBehind 14 = .ok (.invokevirtual 67, 3) := by decide +kernel
theorem dS_breakBehind_17 : decode bS_breakBehind 17 = .ok (.istore 5, 2) := by decide +kernel
theorem dS_breakBehind_19 : decode bS_breakBehind 19 = .ok (.aload_n 0, 1) := by decide +kernel
theorem dS_breakBehind_20 : decode bS_breakBehind 20 = .ok (.iload_n 1, 1) := by decide +kernel
theorem dS_breakBehind_21 : decode bS_breakBehind 21 = .ok (.iload_n 2, 1) := by decide +kernel
theorem dS_breakBehind_22 : decode bS_breakBehind 22 = .ok (.iload_n 3, 1) := by decide +kernel
theorem dS_breakBehind_23 : decode bS_breakBehind 23 = .ok (.iload 4, 2) := by decide +kernel
theorem dS_breakBehind_25 : decode bS_breakBehind 25 = .ok (.invokevirtual 75, 3) := by decide +kernel
theorem dS_breakBehind_28 : decode bS_breakBehind 28 = .ok (.iload 5, 2) := by decide +kernel
theorem dS_breakBehind_30 : decode bS_breakBehind 30 = .ok (.if_icmp .ne 6, 3) := by decide +kernel
theorem dS_breakBehind_33 : decode bS_breakBehind 33 = .ok (.iload 4, 2) := by decide +kernel
theorem dS_breakBehind_35 : decode bS_breakBehind 35 = .ok (.ireturn, 1) := by decide +kernel
theorem dS_breakBehind_36 : decode bS_breakBehind 36 = .ok (.iload 4, 2) := by decide +kernel
theorem dS_breakBehind_38 : decode bS_breakBehind 38 = .ok (.iconst 2, 1) := by decide +kernel
theorem dS_breakBehind_39 : decode bS_breakBehind 39 = .ok (.isub, 1) := by decide +kernel
theorem dS_breakBehind_40 : decode bS_breakBehind 40 = .ok (.istore 6, 2) := by decide +kernel
theorem dS_breakBehind_42 : decode bS_breakBehind 42 = .ok (.iload 6, 2) := by decide +kernel
theorem dS_breakBehind_44 : decode bS_breakBehind 44 = .ok (.iload_n 2, 1) := by decide +kernel
theorem dS_breakBehind_45 : decode bS_breakBehind 45 = .ok (.iconst 2, 1) := by decide +kernel
theorem dS_breakBehind_46 : decode bS_breakBehind 46 = .ok (.iadd, 1) := by decide +kernel
theorem dS_breakBehind_47 : decode bS_breakBehind 47 = .ok (.if_icmp .lt 26, 3) := by decide +kernel
theorem dS_breakBehind_50 : decode bS_breakBehind 50 = .ok (.aload_n 0, 1) := by decide +kernel
theorem dS_breakBehind_51 : decode bS_breakBehind 51 = .ok (.iload_n 1, 1) := by decide +kernel
theorem dS_breakBehind_52 : decode bS_breakBehind 52 = .ok (.iload_n 2, 1) := by decide +kernel
theorem dS_breakBehind_53 : decode bS_breakBehind 53 = .ok (.iload_n 3, 1) := by decide +kernel
theorem dS_breakBehind_54 : decode bS_breakBehind 54 = .ok (.iload 6, 2) := by decide +kernel
theorem dS_breakBehind_56 : decode bS_breakBehind 56 = .ok (.invokevirtual 75, 3) := by decide +kernel
theorem dS_breakBehind_59 : decode bS_breakBehind 59 = .ok (.iload 5, 2) := by decide +kernel
theorem dS_breakBehind_61 : decode bS_breakBehind 61 = .ok (.if_icmp .ne 6, 3) := by decide +kernel
theorem dS_breakBehind_64 : decode bS_breakBehind 64 = .ok (.iload 6, 2) := by decide +kernel
theorem dS_breakBehind_66 : decode bS_breakBehind 66 = .ok (.ireturn, 1) := by decide +kernel
theorem dS_breakBehind_67 : decode bS_breakBehind 67 = .ok (.iinc 6 (-1), 3) := by decide +kernel
theorem dS_breakBehind_70 : decode bS_breakBehind 70 = .ok (.goto (-28), 3) := by decide +kernel
theorem dS_breakBehind_73 : decode bS_breakBehind 73 = .ok (.iload 4, 2) := by decide +kernel
theorem dS_breakBehind_75 : decode bS_breakBehind 75 = .ok (.ireturn, 1) := by decide +kernel
theorem dS_roomBehind_0 : decode bS_roomBehind 0 = .ok (.aload_n 0, 1) := by decide +kernel
theorem dS_roomBehind_1 : decode bS_roomBehind 1 = .ok (.iload_n 1, 1) := by decide +kernel
theorem dS_roomBehind_2 : decode bS_roomBehind 2 = .ok (.iload_n 2, 1) := by decide +kernel
theorem dS_roomBehind_3 : decode bS_roomBehind 3 = .ok (.invokevirtual 58, 3) := by decide +kernel
theorem dS_roomBehind_6 : decode bS_roomBehind 6 = .ok (.istore_n 3, 1) := by decide +kernel
theorem dS_roomBehind_7 : decode bS_roomBehind 7 = .ok (.aload_n 0, 1) := by decide +kernel
theorem dS_roomBehind_8 : decode bS_roomBehind 8 = .ok (.iload_n 1, 1) := by decide +kernel
theorem dS_roomBehind_9 : decode bS_roomBehind 9 = .ok (.iload_n 2, 1) := by decide +kernel
theorem dS_roomBehind_10 : decode bS_roomBehind 10 = .ok (.invokevirtual 61, 3) := by decide +kernel
theorem dS_roomBehind_13 : decode bS_roomBehind 13 = .ok (.istore 4, 2) := by decide +kernel
theorem dS_roomBehind_15 : decode bS_roomBehind 15 = .ok (.aload_n 0, 1) := by decide +kernel
theorem dS_roomBehind_16 : decode bS_roomBehind 16 = .ok (.getfield 29, 3) := by decide +kernel
theorem dS_roomBehind_19 : decode bS_roomBehind 19 = .ok (.getfield 64, 3) := by decide +kernel
theorem dS_roomBehind_22 : decode bS_roomBehind 22 = .ok (.iload_n 1, 1) := by decide +kernel
theorem dS_roomBehind_23 : decode bS_roomBehind 23 = .ok (.iaload, 1) := by decide +kernel
theorem dS_roomBehind_24 : decode bS_roomBehind 24 = .ok (.istore 5, 2) := by decide +kernel
theorem dS_roomBehind_26 : decode bS_roomBehind 26 = .ok (.iload 5, 2) := by decide +kernel
theorem dS_roomBehind_28 : decode bS_roomBehind 28 = .ok (.iload 4, 2) := by decide +kernel
theorem dS_roomBehind_30 : decode bS_roomBehind 30 = .ok (.if_icmp .ge 29, 3) := by decide +kernel
theorem dS_roomBehind_33 : decode bS_roomBehind 33 = .ok (.iload 5, 2) := by decide +kernel
theorem dS_roomBehind_35 : decode bS_roomBehind 35 = .ok (.aload_n 0, 1) := by decide +kernel
theorem dS_roomBehind_36 : decode bS_roomBehind 36 = .ok (.iload_n 1, 1) := by decide +kernel
theorem dS_roomBehind_37 : decode bS_roomBehind 37 = .ok (.iconst 0, 1) := by decide +kernel
theorem dS_roomBehind_38 : decode bS_roomBehind 38 = .ok (.iload_n 2, 1) := by decide +kernel
theorem dS_roomBehind_39 : decode bS_roomBehind 39 = .ok (.iload 5, 2) := by decide +kernel
theorem dS_roomBehind_41 : decode bS_roomBehind 41 = .ok (.iadd, 1) := by decide +kernel
theorem dS_roomBehind_42 : decode bS_roomBehind 42 = .ok (.invokevirtual 67, 3) := by decide +kernel
theorem dS_roomBehind_45 : decode bS_roomBehind 45 = .ok (.iadd, 1) := by decide +kernel
theorem dS_roomBehind_46 : decode bS_roomBehind 46 = .ok (.iload_n 3, 1) := by decide +kernel
theorem dS_roomBehind_47 : decode bS_roomBehind 47 = .ok (.if_icmp .ne 6, 3) := by decide +kernel
theorem dS_roomBehind_50 : decode bS_roomBehind 50 = .ok (.iload 5, 2) := by decide +kernel
theorem dS_roomBehind_52 : decode bS_roomBehind 52 = .ok (.ireturn, 1) := by decide +kernel
theorem dS_roomBehind_53 : decode bS_roomBehind 53 = .ok (.iinc 5 1, 3) := by decide +kernel
theorem dS_roomBehind_56 : decode bS_roomBehind 56 = .ok (.goto (-30), 3) := by decide +kernel
theorem dS_roomBehind_59 : decode bS_roomBehind 59 = .ok (.iload 4, 2) := by decide +kernel
theorem dS_roomBehind_61 : decode bS_roomBehind 61 = .ok (.ireturn, 1) := by decide +kernel
theorem dS_fewestColumns_0 : decode bS_fewestColumns 0 = .ok (.aload_n 0, 1) := by decide +kernel
theorem dS_fewestColumns_1 : decode bS_fewestColumns 1 = .ok (.iload_n 1, 1) := by decide +kernel
theorem dS_fewestColumns_2 : decode bS_fewestColumns 2 = .ok (.putfield 18, 3) := by decide +kernel
theorem dS_fewestColumns_5 : decode bS_fewestColumns 5 = .ok (.aload_n 0, 1) := by decide +kernel
theorem dS_fewestColumns_6 : decode bS_fewestColumns 6 = .ok (.iconst (-1), 1) := by decide +kernel
theorem dS_fewestColumns_7 : decode bS_fewestColumns 7 = .ok (.putfield 22, 3) := by decide +kernel
theorem dS_fewestColumns_10 : decode bS_fewestColumns 10 = .ok (.aload_n 0, 1) := by decide +kernel
theorem dS_fewestColumns_11 : decode bS_fewestColumns 11 = .ok (.iconst 1, 1) := by decide +kernel
theorem dS_fewestColumns_12 : decode bS_fewestColumns 12 = .ok (.putfield 25, 3) := by decide +kernel
theorem dS_fewestColumns_15 : decode bS_fewestColumns 15 = .ok (.aload_n 0, 1) := by decide +kernel
theorem dS_fewestColumns_16 : decode bS_fewestColumns 16 = .ok (.invokevirtual 36, 3) := by decide +kernel
theorem dS_fewestColumns_19 : decode bS_fewestColumns 19 = .ok (.ldc 40, 2) := by decide +kernel
theorem dS_fewestColumns_21 : decode bS_fewestColumns 21 = .ok (.idiv, 1) := by decide +kernel
theorem dS_fewestColumns_22 : decode bS_fewestColumns 22 = .ok (.ireturn, 1) := by decide +kernel
