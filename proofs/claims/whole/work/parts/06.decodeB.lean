theorem dB_append_0 : decode bB_append 0 = .ok (.aload_n 0, 1) := by decide +kernel
theorem dB_append_1 : decode bB_append 1 = .ok (.getfield 24, 3) := by decide +kernel
theorem dB_append_4 : decode bB_append 4 = .ok (.istore 5, 2) := by decide +kernel
theorem dB_append_6 : decode bB_append 6 = .ok (.iload 5, 2) := by decide +kernel
theorem dB_append_8 : decode bB_append 8 = .ok (.bipush 12, 2) := by decide +kernel
theorem dB_append_10 : decode bB_append 10 = .ok (.if_icmp .lt 6, 3) := by decide +kernel
theorem dB_append_13 : decode bB_append 13 = .ok (.bipush (-4), 2) := by decide +kernel
theorem dB_append_15 : decode bB_append 15 = .ok (.ireturn, 1) := by decide +kernel
theorem dB_append_16 : decode bB_append 16 = .ok (.aload_n 0, 1) := by decide +kernel
theorem dB_append_17 : decode bB_append 17 = .ok (.getfield 9, 3) := by decide +kernel
theorem dB_append_20 : decode bB_append 20 = .ok (.iload 5, 2) := by decide +kernel
theorem dB_append_22 : decode bB_append 22 = .ok (.iload_n 1, 1) := by decide +kernel
theorem dB_append_23 : decode bB_append 23 = .ok (.iastore, 1) := by decide +kernel
theorem dB_append_24 : decode bB_append 24 = .ok (.aload_n 0, 1) := by decide +kernel
theorem dB_append_25 : decode bB_append 25 = .ok (.getfield 15, 3) := by decide +kernel
theorem dB_append_28 : decode bB_append 28 = .ok (.iload 5, 2) := by decide +kernel
theorem dB_append_30 : decode bB_append 30 = .ok (.iload_n 2, 1) := by decide +kernel
theorem dB_append_31 : decode bB_append 31 = .ok (.iastore, 1) := by decide +kernel
theorem dB_append_32 : decode bB_append 32 = .ok (.aload_n 0, 1) := by decide +kernel
theorem dB_append_33 : decode bB_append 33 = .ok (.getfield 18, 3) := by decide +kernel
theorem dB_append_36 : decode bB_append 36 = .ok (.iload 5, 2) := by decide +kernel
theorem dB_append_38 : decode bB_append 38 = .ok (.iload_n 3, 1) := by decide +kernel
theorem dB_append_39 : decode bB_append 39 = .ok (.iastore, 1) := by decide +kernel
theorem dB_append_40 : decode bB_append 40 = .ok (.aload_n 0, 1) := by decide +kernel
theorem dB_append_41 : decode bB_append 41 = .ok (.getfield 21, 3) := by decide +kernel
theorem dB_append_44 : decode bB_append 44 = .ok (.iload 5, 2) := by decide +kernel
theorem dB_append_46 : decode bB_append 46 = .ok (.iload 4, 2) := by decide +kernel
theorem dB_append_48 : decode bB_append 48 = .ok (.iastore, 1) := by decide +kernel
theorem dB_append_49 : decode bB_append 49 = .ok (.aload_n 0, 1) := by decide +kernel
theorem dB_append_50 : decode bB_append 50 = .ok (.dup, 1) := by decide +kernel
theorem dB_append_51 : decode bB_append 51 = .ok (.getfield 24, 3) := by decide +kernel
theorem dB_append_54 : decode bB_append 54 = .ok (.iconst 1, 1) := by decide +kernel
theorem dB_append_55 : decode bB_append 55 = .ok (.iadd, 1) := by decide +kernel
theorem dB_append_56 : decode bB_append 56 = .ok (.putfield 24, 3) := by decide +kernel
theorem dB_append_59 : decode bB_append 59 = .ok (.iload 5, 2) := by decide +kernel
theorem dB_append_61 : decode bB_append 61 = .ok (.ireturn, 1) := by decide +kernel
theorem dB_has_0 : decode bB_has 0 = .ok (.iload_n 1, 1) := by decide +kernel
theorem dB_has_1 : decode bB_has 1 = .ok (.ifCond .lt 15, 3) := by decide +kernel
theorem dB_has_4 : decode bB_has 4 = .ok (.iload_n 1, 1) := by decide +kernel
theorem dB_has_5 : decode bB_has 5 = .ok (.aload_n 0, 1) := by decide +kernel
theorem dB_has_6 : decode bB_has 6 = .ok (.getfield 24, 3) := by decide +kernel
theorem dB_has_9 : decode bB_has 9 = .ok (.if_icmp .ge 7, 3) := by decide +kernel
theorem dB_has_12 : decode bB_has 12 = .ok (.iconst 1, 1) := by decide +kernel
theorem dB_has_13 : decode bB_has 13 = .ok (.goto 4, 3) := by decide +kernel
theorem dB_has_16 : decode bB_has 16 = .ok (.iconst 0, 1) := by decide +kernel
theorem dB_has_17 : decode bB_has 17 = .ok (.ireturn, 1) := by decide +kernel
theorem dB_number_0 : decode bB_number 0 = .ok (.iload_n 2, 1) := by decide +kernel
theorem dB_number_1 : decode bB_number 1 = .ok (.tableswitch 48 0 2 #[27, 34, 41], 27) := by decide +kernel
theorem dB_number_28 : decode bB_number 28 = .ok (.aload_n 0, 1) := by decide +kernel
theorem dB_number_29 : decode bB_number 29 = .ok (.getfield 9, 3) := by decide +kernel
theorem dB_number_32 : decode bB_number 32 = .ok (.iload_n 1, 1) := by decide +kernel
theorem dB_number_33 : decode bB_number 33 = .ok (.iaload, 1) := by decide +kernel
theorem dB_number_34 : decode bB_number 34 = .ok (.ireturn, 1) := by decide +kernel
theorem dB_number_35 : decode bB_number 35 = .ok (.aload_n 0, 1) := by decide +kernel
theorem dB_number_36 : decode bB_number 36 = .ok (.getfield 15, 3) := by decide +kernel
theorem dB_number_39 : decode bB_number 39 = .ok (.iload_n 1, 1) := by decide +kernel
theorem dB_number_40 : decode bB_number 40 = .ok (.iaload, 1) := by decide +kernel
theorem dB_number_41 : decode bB_number 41 = .ok (.ireturn, 1) := by decide +kernel
theorem dB_number_42 : decode bB_number 42 = .ok (.aload_n 0, 1) := by decide +kernel
theorem dB_number_43 : decode bB_number 43 = .ok (.getfield 18, 3) := by decide +kernel
theorem dB_number_46 : decode bB_number 46 = .ok (.iload_n 1, 1) := by decide +kernel
theorem dB_number_47 : decode bB_number 47 = .ok (.iaload, 1) := by decide +kernel
theorem dB_number_48 : decode bB_number 48 = .ok (.ireturn, 1) := by decide +kernel
theorem dB_number_49 : decode bB_number 49 = .ok (.aload_n 0, 1) := by decide +kernel
theorem dB_number_50 : decode bB_number 50 = .ok (.getfield 21, 3) := by decide +kernel
theorem dB_number_53 : decode bB_number 53 = .ok (.iload_n 1, 1) := by decide +kernel
theorem dB_number_54 : decode bB_number 54 = .ok (.iaload, 1) := by decide +kernel
theorem dB_number_55 : decode bB_number 55 = .ok (.ireturn, 1) := by decide +kernel
theorem dB_write_0 : decode bB_write 0 = .ok (.iload_n 2, 1) := by decide +kernel
theorem dB_write_1 : decode bB_write 1 = .ok (.lookupswitch 47 #[(1, 27), (2, 37)], 27) := by decide +kernel
theorem dB_write_28 : decode bB_write 28 = .ok (.aload_n 0, 1) := by decide +kernel
theorem dB_write_29 : decode bB_write 29 = .ok (.getfield 15, 3) := by decide +kernel
theorem dB_write_32 : decode bB_write 32 = .ok (.iload_n 1, 1) := by decide +kernel
theorem dB_write_33 : decode bB_write 33 = .ok (.iload_n 3, 1) := by decide +kernel
theorem dB_write_34 : decode bB_write 34 = .ok (.iastore, 1) := by decide +kernel
theorem dB_write_35 : decode bB_write 35 = .ok (.goto 20, 3) := by decide +kernel
theorem dB_write_38 : decode bB_write 38 = .ok (.aload_n 0, 1) := by decide +kernel
theorem dB_write_39 : decode bB_write 39 = .ok (.getfield 18, 3) := by decide +kernel
theorem dB_write_42 : decode bB_write 42 = .ok (.iload_n 1, 1) := by decide +kernel
theorem dB_write_43 : decode bB_write 43 = .ok (.iload_n 3, 1) := by decide +kernel
theorem dB_write_44 : decode bB_write 44 = .ok (.iastore, 1) := by decide +kernel
theorem dB_write_45 : decode bB_write 45 = .ok (.goto 10, 3) := by decide +kernel
theorem dB_write_48 : decode bB_write 48 = .ok (.aload_n 0, 1) := by decide +kernel
theorem dB_write_49 : decode bB_write 49 = .ok (.getfield 21, 3) := by decide +kernel
theorem dB_write_52 : decode bB_write 52 = .ok (.iload_n 1, 1) := by decide +kernel
theorem dB_write_53 : decode bB_write 53 = .ok (.iload_n 3, 1) := by decide +kernel
theorem dB_write_54 : decode bB_write 54 = .ok (.iastore, 1) := by decide +kernel
theorem dB_write_55 : decode bB_write 55 = .ok (.return_, 1) := by decide +kernel
theorem dB_shiftNumber_0 : decode bB_shiftNumber 0 = .ok (.aload_n 0, 1) := by decide +kernel
theorem dB_shiftNumber_1 : decode bB_shiftNumber 1 = .ok (.iload_n 1, 1) := by decide +kernel
theorem dB_shiftNumber_2 : decode bB_shiftNumber 2 = .ok (.iaload, 1) := by decide +kernel
theorem dB_shiftNumber_3 : decode bB_shiftNumber 3 = .ok (.istore_n 3, 1) := by decide +kernel
theorem dB_shiftNumber_4 : decode bB_shiftNumber 4 = .ok (.iload_n 1, 1) := by decide +kernel
theorem dB_shiftNumber_5 : decode bB_shiftNumber 5 = .ok (.istore 4, 2) := by decide +kernel
theorem dB_shiftNumber_7 : decode bB_shiftNumber 7 = .ok (.iload 4, 2) := by decide +kernel
theorem dB_shiftNumber_9 : decode bB_shiftNumber 9 = .ok (.iload_n 2, 1) := by decide +kernel
theorem dB_shiftNumber_10 : decode bB_shiftNumber 10 = .ok (.if_icmp .ge 19, 3) := by decide +kernel
theorem dB_shiftNumber_13 : decode bB_shiftNumber 13 = .ok (.aload_n 0, 1) := by decide +kernel
theorem dB_shiftNumber_14 : decode bB_shiftNumber 14 = .ok (.iload 4, 2) := by decide +kernel
theorem dB_shiftNumber_16 : decode bB_shiftNumber 16 = .ok (.aload_n 0, 1) := by decide +kernel
theorem dB_shiftNumber_17 : decode bB_shiftNumber 17 = .ok (.iload 4, 2) := by decide +kernel
theorem dB_shiftNumber_19 : decode bB_shiftNumber 19 = .ok (.iconst 1, 1) := by decide +kernel
theorem dB_shiftNumber_20 : decode bB_shiftNumber 20 = .ok (.iadd, 1) := by decide +kernel
theorem dB_shiftNumber_21 : decode bB_shiftNumber 21 = .ok (.iaload, 1) := by decide +kernel
theorem dB_shiftNumber_22 : decode bB_shiftNumber 22 = .ok (.iastore, 1) := by decide +kernel
theorem dB_shiftNumber_23 : decode bB_shiftNumber 23 = .ok (.iinc 4 1, 3) := by decide +kernel
theorem dB_shiftNumber_26 : decode bB_shiftNumber 26 = .ok (.goto (-19), 3) := by decide +kernel
theorem dB_shiftNumber_29 : decode bB_shiftNumber 29 = .ok (.iload_n 1, 1) := by decide +kernel
theorem dB_shiftNumber_30 : decode bB_shiftNumber 30 = .ok (.istore 4, 2) := by decide +kernel
theorem dB_shiftNumber_32 : decode bB_shiftNumber 32 = .ok (.iload 4, 2) := by decide +kernel
theorem dB_shiftNumber_34 : decode bB_shiftNumber 34 = .ok (.iload_n 2, 1) := by decide +kernel
theorem dB_shiftNumber_35 : decode bB_shiftNumber 35 = .ok (.if_icmp .le 19, 3) := by decide +kernel
theorem dB_shiftNumber_38 : decode bB_shiftNumber 38 = .ok (.aload_n 0, 1) := by decide +kernel
theorem dB_shiftNumber_39 : decode bB_shiftNumber 39 = .ok (.iload 4, 2) := by decide +kernel
theorem dB_shiftNumber_41 : decode bB_shiftNumber 41 = .ok (.aload_n 0, 1) := by decide +kernel
theorem dB_shiftNumber_42 : decode bB_shiftNumber 42 = .ok (.iload 4, 2) := by decide +kernel
theorem dB_shiftNumber_44 : decode bB_shiftNumber 44 = .ok (.iconst 1, 1) := by decide +kernel
theorem dB_shiftNumber_45 : decode bB_shiftNumber 45 = .ok (.isub, 1) := by decide +kernel
theorem dB_shiftNumber_46 : decode bB_shiftNumber 46 = .ok (.iaload, 1) := by decide +kernel
theorem dB_shiftNumber_47 : decode bB_shiftNumber 47 = .ok (.iastore, 1) := by decide +kernel
theorem dB_shiftNumber_48 : decode bB_shiftNumber 48 = .ok (.iinc 4 (-1), 3) := by decide +kernel
theorem dB_shiftNumber_51 : decode bB_shiftNumber 51 = .ok (.goto (-19), 3) := by decide +kernel
theorem dB_shiftNumber_54 : decode bB_shiftNumber 54 = .ok (.aload_n 0, 1) := by decide +kernel
theorem dB_shiftNumber_55 : decode bB_shiftNumber 55 = .ok (.iload_n 2, 1) := by decide +kernel
theorem dB_shiftNumber_56 : decode bB_shiftNumber 56 = .ok (.iload_n 3, 1) := by decide +kernel
theorem dB_shiftNumber_57 : decode bB_shiftNumber 57 = .ok (.iastore, 1) := by decide +kernel
theorem dB_shiftNumber_58 : decode bB_shiftNumber 58 = .ok (.return_, 1) := by decide +kernel
theorem dB_shift_0 : decode bB_shift 0 = .ok (.aload_n 0, 1) := by decide +kernel
theorem dB_shift_1 : decode bB_shift 1 = .ok (.getfield 9, 3) := by decide +kernel
theorem dB_shift_4 : decode bB_shift 4 = .ok (.iload_n 1, 1) := by decide +kernel
theorem dB_shift_5 : decode bB_shift 5 = .ok (.iload_n 2, 1) := by decide +kernel
theorem dB_shift_6 : decode bB_shift 6 = .ok (.invokestatic 34, 3) := by decide +kernel
theorem dB_shift_9 : decode bB_shift 9 = .ok (.aload_n 0, 1) := by decide +kernel
theorem dB_shift_10 : decode bB_shift 10 = .ok (.getfield 15, 3) := by decide +kernel
theorem dB_shift_13 : decode bB_shift 13 = .ok (.iload_n 1, 1) := by decide +kernel
theorem dB_shift_14 : decode bB_shift 14 = .ok (.iload_n 2, 1) := by decide +kernel
theorem dB_shift_15 : decode bB_shift 15 = .ok (.invokestatic 34, 3) := by decide +kernel
theorem dB_shift_18 : decode bB_shift 18 = .ok (.aload_n 0, 1) := by decide +kernel
theorem dB_shift_19 : decode bB_shift 19 = .ok (.getfield 18, 3) := by decide +kernel
theorem dB_shift_22 : decode bB_shift 22 = .ok (.iload_n 1, 1) := by decide +kernel
theorem dB_shift_23 : decode bB_shift 23 = .ok (.iload_n 2, 1) := by decide +kernel
theorem dB_shift_24 : decode bB_shift 24 = .ok (.invokestatic 34, 3) := by decide +kernel
theorem dB_shift_27 : decode bB_shift 27 = .ok (.aload_n 0, 1) := by decide +kernel
theorem dB_shift_28 : decode bB_shift 28 = .ok (.getfield 21, 3) := by decide +kernel
theorem dB_shift_31 : decode bB_shift 31 = .ok (.iload_n 1, 1) := by decide +kernel
theorem dB_shift_32 : decode bB_shift 32 = .ok (.iload_n 2, 1) := by decide +kernel
theorem dB_shift_33 : decode bB_shift 33 = .ok (.invokestatic 34, 3) := by decide +kernel
theorem dB_shift_36 : decode bB_shift 36 = .ok (.return_, 1) := by decide +kernel
theorem dJ_fill_0 : decode bJ_fill 0 = .ok (.iconst 0, 1) := by decide +kernel
theorem dJ_fill_1 : decode bJ_fill 1 = .ok (.istore_n 2, 1) := by decide +kernel
theorem dJ_fill_2 : decode bJ_fill 2 = .ok (.aload_n 0, 1) := by decide +kernel
theorem dJ_fill_3 : decode bJ_fill 3 = .ok (.arraylength, 1) := by decide +kernel
theorem dJ_fill_4 : decode bJ_fill 4 = .ok (.istore_n 3, 1) := by decide +kernel
theorem dJ_fill_5 : decode bJ_fill 5 = .ok (.iload_n 2, 1) := by decide +kernel
theorem dJ_fill_6 : decode bJ_fill 6 = .ok (.iload_n 3, 1) := by decide +kernel
theorem dJ_fill_7 : decode bJ_fill 7 = .ok (.if_icmp .ge 13, 3) := by decide +kernel
theorem dJ_fill_10 : decode bJ_fill 10 = .ok (.aload_n 0, 1) := by decide +kernel
theorem dJ_fill_11 : decode bJ_fill 11 = .ok (.iload_n 2, 1) := by decide +kernel
theorem dJ_fill_12 : decode bJ_fill 12 = .ok (.iload_n 1, 1) := by decide +kernel
theorem dJ_fill_13 : decode bJ_fill 13 = .ok (.iastore, 1) := by decide +kernel
theorem dJ_fill_14 : decode bJ_fill 14 = .ok (.iinc 2 1, 3) := by decide +kernel
theorem dJ_fill_17 : decode bJ_fill 17 = .ok (.goto (-12), 3) := by decide +kernel
theorem dJ_fill_20 : decode bJ_fill 20 = .ok (.return_, 1) := by decide +kernel
theorem dB_thingsOf_0 : decode bB_thingsOf 0 = .ok (.aload_n 0, 1) := by decide +kernel
theorem dB_thingsOf_1 : decode bB_thingsOf 1 = .ok (.getfield 9, 3) := by decide +kernel
theorem dB_thingsOf_4 : decode bB_thingsOf 4 = .ok (.iload_n 1, 1) := by decide +kernel
theorem dB_thingsOf_5 : decode bB_thingsOf 5 = .ok (.iaload, 1) := by decide +kernel
theorem dB_thingsOf_6 : decode bB_thingsOf 6 = .ok (.ifCond .ne 12, 3) := by decide +kernel
theorem dB_thingsOf_9 : decode bB_thingsOf 9 = .ok (.aload_n 0, 1) := by decide +kernel
theorem dB_thingsOf_10 : decode bB_thingsOf 10 = .ok (.getfield 15, 3) := by decide +kernel
theorem dB_thingsOf_13 : decode bB_thingsOf 13 = .ok (.iload_n 1, 1) := by decide +kernel
theorem dB_thingsOf_14 : decode bB_thingsOf 14 = .ok (.iaload, 1) := by decide +kernel
theorem dB_thingsOf_15 : decode bB_thingsOf 15 = .ok (.goto 4, 3) := by decide +kernel
theorem dB_thingsOf_18 : decode bB_thingsOf 18 = .ok (.iconst 1, 1) := by decide +kernel
theorem dB_thingsOf_19 : decode bB_thingsOf 19 = .ok (.ireturn, 1) := by decide +kernel
theorem dB_tall_0 : decode bB_tall 0 = .ok (.aload_n 0, 1) := by decide +kernel
theorem dB_tall_1 : decode bB_tall 1 = .ok (.getfield 9, 3) := by decide +kernel
theorem dB_tall_4 : decode bB_tall 4 = .ok (.iload_n 1, 1) := by decide +kernel
theorem dB_tall_5 : decode bB_tall 5 = .ok (.iaload, 1) := by decide +kernel
theorem dB_tall_6 : decode bB_tall 6 = .ok (.ifCond .ne 10, 3) := by decide +kernel
theorem dB_tall_9 : decode bB_tall 9 = .ok (.aload_n 0, 1) := by decide +kernel
theorem dB_tall_10 : decode bB_tall 10 = .ok (.getfield 28, 3) := by decide +kernel
theorem dB_tall_13 : decode bB_tall 13 = .ok (.goto 9, 3) := by decide +kernel
theorem dB_tall_16 : decode bB_tall 16 = .ok (.aload_n 0, 1) := by decide +kernel
theorem dB_tall_17 : decode bB_tall 17 = .ok (.getfield 15, 3) := by decide +kernel
theorem dB_tall_20 : decode bB_tall 20 = .ok (.iload_n 1, 1) := by decide +kernel
theorem dB_tall_21 : decode bB_tall 21 = .ok (.iaload, 1) := by decide +kernel
theorem dB_tall_22 : decode bB_tall 22 = .ok (.ireturn, 1) := by decide +kernel
theorem dB_isOut_0 : decode bB_isOut 0 = .ok (.aload_n 0, 1) := by decide +kernel
theorem dB_isOut_1 : decode bB_isOut 1 = .ok (.getfield 9, 3) := by decide +kernel
theorem dB_isOut_4 : decode bB_isOut 4 = .ok (.iload_n 1, 1) := by decide +kernel
theorem dB_isOut_5 : decode bB_isOut 5 = .ok (.iaload, 1) := by decide +kernel
theorem dB_isOut_6 : decode bB_isOut 6 = .ok (.ifCond .ne 24, 3) := by decide +kernel
theorem dB_isOut_9 : decode bB_isOut 9 = .ok (.aload_n 0, 1) := by decide +kernel
theorem dB_isOut_10 : decode bB_isOut 10 = .ok (.getfield 28, 3) := by decide +kernel
theorem dB_isOut_13 : decode bB_isOut 13 = .ok (.iconst 3, 1) := by decide +kernel
theorem dB_isOut_14 : decode bB_isOut 14 = .ok (.if_icmp .lt 16, 3) := by decide +kernel
theorem dB_isOut_17 : decode bB_isOut 17 = .ok (.iload_n 2, 1) := by decide +kernel
theorem dB_isOut_18 : decode bB_isOut 18 = .ok (.aload_n 0, 1) := by decide +kernel
theorem dB_isOut_19 : decode bB_isOut 19 = .ok (.getfield 28, 3) := by decide +kernel
theorem dB_isOut_22 : decode bB_isOut 22 = .ok (.irem, 1) := by decide +kernel
theorem dB_isOut_23 : decode bB_isOut 23 = .ok (.ifCond .eq 7, 3) := by decide +kernel
theorem dB_isOut_26 : decode bB_isOut 26 = .ok (.iconst 1, 1) := by decide +kernel
theorem dB_isOut_27 : decode bB_isOut 27 = .ok (.goto 4, 3) := by decide +kernel
theorem dB_isOut_30 : decode bB_isOut 30 = .ok (.iconst 0, 1) := by decide +kernel
theorem dB_isOut_31 : decode bB_isOut 31 = .ok (.ireturn, 1) := by decide +kernel
theorem dB_thingsBefore_0 : decode bB_thingsBefore 0 = .ok (.iconst 0, 1) := by decide +kernel
theorem dB_thingsBefore_1 : decode bB_thingsBefore 1 = .ok (.istore_n 2, 1) := by decide +kernel
theorem dB_thingsBefore_2 : decode bB_thingsBefore 2 = .ok (.iconst 0, 1) := by decide +kernel
theorem dB_thingsBefore_3 : decode bB_thingsBefore 3 = .ok (.istore_n 3, 1) := by decide +kernel
theorem dB_thingsBefore_4 : decode bB_thingsBefore 4 = .ok (.iload_n 3, 1) := by decide +kernel
theorem dB_thingsBefore_5 : decode bB_thingsBefore 5 = .ok (.iload_n 1, 1) := by decide +kernel
theorem dB_thingsBefore_6 : decode bB_thingsBefore 6 = .ok (.if_icmp .ge 17, 3) := by decide +kernel
theorem dB_thingsBefore_9 : decode bB_thingsBefore 9 = .ok (.iload_n 2, 1) := by decide +kernel
theorem dB_thingsBefore_10 : decode bB_thingsBefore 10 = .ok (.aload_n 0, 1) := by decide +kernel
theorem dB_thingsBefore_11 : decode bB_thingsBefore 11 = .ok (.iload_n 3, 1) := by decide +kernel
theorem dB_thingsBefore_12 : decode bB_thingsBefore 12 = .ok (.invokevirtual 38, 3) := by decide +kernel
theorem dB_thingsBefore_15 : decode bB_thingsBefore 15 = .ok (.iadd, 1) := by decide +kernel
theorem dB_thingsBefore_16 : decode bB_thingsBefore 16 = .ok (.istore_n 2, 1) := by decide +kernel
theorem dB_thingsBefore_17 : decode bB_thingsBefore 17 = .ok (.iinc 3 1, 3) := by decide +kernel
theorem dB_thingsBefore_20 : decode bB_thingsBefore 20 = .ok (.goto (-16), 3) := by decide +kernel
theorem dB_thingsBefore_23 : decode bB_thingsBefore 23 = .ok (.iload_n 2, 1) := by decide +kernel
theorem dB_thingsBefore_24 : decode bB_thingsBefore 24 = .ok (.ireturn, 1) := by decide +kernel
theorem dB_beyondGrid_0 : decode bB_beyondGrid 0 = .ok (.aload_n 0, 1) := by decide +kernel
theorem dB_beyondGrid_1 : decode bB_beyondGrid 1 = .ok (.getfield 28, 3) := by decide +kernel
theorem dB_beyondGrid_4 : decode bB_beyondGrid 4 = .ok (.iconst 3, 1) := by decide +kernel
theorem dB_beyondGrid_5 : decode bB_beyondGrid 5 = .ok (.if_icmp .ge 7, 3) := by decide +kernel
theorem dB_beyondGrid_8 : decode bB_beyondGrid 8 = .ok (.iconst 0, 1) := by decide +kernel
theorem dB_beyondGrid_9 : decode bB_beyondGrid 9 = .ok (.goto 9, 3) := by decide +kernel
theorem dB_beyondGrid_12 : decode bB_beyondGrid 12 = .ok (.iload_n 1, 1) := by decide +kernel
theorem dB_beyondGrid_13 : decode bB_beyondGrid 13 = .ok (.aload_n 0, 1) := by decide +kernel
theorem dB_beyondGrid_14 : decode bB_beyondGrid 14 = .ok (.getfield 28, 3) := by decide +kernel
theorem dB_beyondGrid_17 : decode bB_beyondGrid 17 = .ok (.irem, 1) := by decide +kernel
theorem dB_beyondGrid_18 : decode bB_beyondGrid 18 = .ok (.ireturn, 1) := by decide +kernel
theorem dB_copy_0 : decode bB_copy 0 = .ok (.iconst 0, 1) := by decide +kernel
theorem dB_copy_1 : decode bB_copy 1 = .ok (.istore_n 2, 1) := by decide +kernel
theorem dB_copy_2 : decode bB_copy 2 = .ok (.iload_n 2, 1) := by decide +kernel
theorem dB_copy_3 : decode bB_copy 3 = .ok (.bipush 12, 2) := by decide +kernel
theorem dB_copy_5 : decode bB_copy 5 = .ok (.if_icmp .ge 57, 3) := by decide +kernel
theorem dB_copy_8 : decode bB_copy 8 = .ok (.aload_n 0, 1) := by decide +kernel
theorem dB_copy_9 : decode bB_copy 9 = .ok (.getfield 9, 3) := by decide +kernel
theorem dB_copy_12 : decode bB_copy 12 = .ok (.iload_n 2, 1) := by decide +kernel
theorem dB_copy_13 : decode bB_copy 13 = .ok (.aload_n 1, 1) := by decide +kernel
theorem dB_copy_14 : decode bB_copy 14 = .ok (.getfield 9, 3) := by decide +kernel
theorem dB_copy_17 : decode bB_copy 17 = .ok (.iload_n 2, 1) := by decide +kernel
theorem dB_copy_18 : decode bB_copy 18 = .ok (.iaload, 1) := by decide +kernel
theorem dB_copy_19 : decode bB_copy 19 = .ok (.iastore, 1) := by decide +kernel
theorem dB_copy_20 : decode bB_copy 20 = .ok (.aload_n 0, 1) := by decide +kernel
theorem dB_copy_21 : decode bB_copy 21 = .ok (.getfield 15, 3) := by decide +kernel
theorem dB_copy_24 : decode bB_copy 24 = .ok (.iload_n 2, 1) := by decide +kernel
theorem dB_copy_25 : decode bB_copy 25 = .ok (.aload_n 1, 1) := by decide +kernel
theorem dB_copy_26 : decode bB_copy 26 = .ok (.getfield 15, 3) := by decide +kernel
theorem dB_copy_29 : decode bB_copy 29 = .ok (.iload_n 2, 1) := by decide +kernel
theorem dB_copy_30 : decode bB_copy 30 = .ok (.iaload, 1) := by decide +kernel
theorem dB_copy_31 : decode bB_copy 31 = .ok (.iastore, 1) := by decide +kernel
theorem dB_copy_32 : decode bB_copy 32 = .ok (.aload_n 0, 1) := by decide +kernel
theorem dB_copy_33 : decode bB_copy 33 = .ok (.getfield 18, 3) := by decide +kernel
theorem dB_copy_36 : decode bB_copy 36 = .ok (.iload_n 2, 1) := by decide +kernel
theorem dB_copy_37 : decode bB_copy 37 = .ok (.aload_n 1, 1) := by decide +kernel
theorem dB_copy_38 : decode bB_copy 38 = .ok (.getfield 18, 3) := by decide +kernel
theorem dB_copy_41 : decode bB_copy 41 = .ok (.iload_n 2, 1) := by decide +kernel
theorem dB_copy_42 : decode bB_copy 42 = .ok (.iaload, 1) := by decide +kernel
theorem dB_copy_43 : decode bB_copy 43 = .ok (.iastore, 1) := by decide +kernel
theorem dB_copy_44 : decode bB_copy 44 = .ok (.aload_n 0, 1) := by decide +kernel
theorem dB_copy_45 : decode bB_copy 45 = .ok (.getfield 21, 3) := by decide +kernel
theorem dB_copy_48 : decode bB_copy 48 = .ok (.iload_n 2, 1) := by decide +kernel
theorem dB_copy_49 : decode bB_copy 49 = .ok (.aload_n 1, 1) := by decide +kernel
theorem dB_copy_50 : decode bB_copy 50 = .ok (.getfield 21, 3) := by decide +kernel
theorem dB_copy_53 : decode bB_copy 53 = .ok (.iload_n 2, 1) := by decide +kernel
theorem dB_copy_54 : decode bB_copy 54 = .ok (.iaload, 1) := by decide +kernel
theorem dB_copy_55 : decode bB_copy 55 = .ok (.iastore, 1) := by decide +kernel
theorem dB_copy_56 : decode bB_copy 56 = .ok (.iinc 2 1, 3) := by decide +kernel
theorem dB_copy_59 : decode bB_copy 59 = .ok (.goto (-57), 3) := by decide +kernel
theorem dB_copy_62 : decode bB_copy 62 = .ok (.aload_n 0, 1) := by decide +kernel
theorem dB_copy_63 : decode bB_copy 63 = .ok (.aload_n 1, 1) := by decide +kernel
theorem dB_copy_64 : decode bB_copy 64 = .ok (.getfield 24, 3) := by decide +kernel
theorem dB_copy_67 : decode bB_copy 67 = .ok (.putfield 24, 3) := by decide +kernel
theorem dB_copy_70 : decode bB_copy 70 = .ok (.aload_n 0, 1) := by decide +kernel
theorem dB_copy_71 : decode bB_copy 71 = .ok (.aload_n 1, 1) := by decide +kernel
theorem dB_copy_72 : decode bB_copy 72 = .ok (.getfield 28, 3) := by decide +kernel
theorem dB_copy_75 : decode bB_copy 75 = .ok (.putfield 28, 3) := by decide +kernel
theorem dB_copy_78 : decode bB_copy 78 = .ok (.aload_n 0, 1) := by decide +kernel
theorem dB_copy_79 : decode bB_copy 79 = .ok (.aload_n 1, 1) := by decide +kernel
theorem dB_copy_80 : decode bB_copy 80 = .ok (.getfield 31, 3) := by decide +kernel
theorem dB_copy_83 : decode bB_copy 83 = .ok (.putfield 31, 3) := by decide +kernel
theorem dB_copy_86 : decode bB_copy 86 = .ok (.return_, 1) := by decide +kernel
theorem dB_itemsOf_0 : decode bB_itemsOf 0 = .ok (.iconst 0, 1) := by decide +kernel
theorem dB_itemsOf_1 : decode bB_itemsOf 1 = .ok (.istore_n 2, 1) := by decide +kernel
theorem dB_itemsOf_2 : decode bB_itemsOf 2 = .ok (.iconst 0, 1) := by decide +kernel
theorem dB_itemsOf_3 : decode bB_itemsOf 3 = .ok (.istore_n 3, 1) := by decide +kernel
theorem dB_itemsOf_4 : decode bB_itemsOf 4 = .ok (.iload_n 3, 1) := by decide +kernel
theorem dB_itemsOf_5 : decode bB_itemsOf 5 = .ok (.aload_n 0, 1) := by decide +kernel
theorem dB_itemsOf_6 : decode bB_itemsOf 6 = .ok (.getfield 24, 3) := by decide +kernel
theorem dB_itemsOf_9 : decode bB_itemsOf 9 = .ok (.if_icmp .ge 22, 3) := by decide +kernel
theorem dB_itemsOf_12 : decode bB_itemsOf 12 = .ok (.aload_n 0, 1) := by decide +kernel
theorem dB_itemsOf_13 : decode bB_itemsOf 13 = .ok (.getfield 9, 3) := by decide +kernel
theorem dB_itemsOf_16 : decode bB_itemsOf 16 = .ok (.iload_n 3, 1) := by decide +kernel
theorem dB_itemsOf_17 : decode bB_itemsOf 17 = .ok (.iaload, 1) := by decide +kernel
theorem dB_itemsOf_18 : decode bB_itemsOf 18 = .ok (.iload_n 1, 1) := by decide +kernel
theorem dB_itemsOf_19 : decode bB_itemsOf 19 = .ok (.if_icmp .ne 6, 3) := by decide +kernel
theorem dB_itemsOf_22 : decode bB_itemsOf 22 = .ok (.iinc 2 1, 3) := by decide +kernel
theorem dB_itemsOf_25 : decode bB_itemsOf 25 = .ok (.iinc 3 1, 3) := by decide +kernel
theorem dB_itemsOf_28 : decode bB_itemsOf 28 = .ok (.goto (-24), 3) := by decide +kernel
theorem dB_itemsOf_31 : decode bB_itemsOf 31 = .ok (.iload_n 2, 1) := by decide +kernel
theorem dB_itemsOf_32 : decode bB_itemsOf 32 = .ok (.ireturn, 1) := by decide +kernel
