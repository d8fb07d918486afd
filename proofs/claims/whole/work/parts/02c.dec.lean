/-! the instructions, decoded; printed by wip/gen/dec.py -/
theorem dX6_init_0 : decode cX6_init 0 = .ok (.aload_n 0, 1) := by decide +kernel
theorem dX6_init_1 : decode cX6_init 1 = .ok (.invokespecial 3, 3) := by decide +kernel
theorem dX6_init_4 : decode cX6_init 4 = .ok (.aload_n 0, 1) := by decide +kernel
theorem dX6_init_5 : decode cX6_init 5 = .ok (.new 9, 3) := by decide +kernel
theorem dX6_init_8 : decode cX6_init 8 = .ok (.dup, 1) := by decide +kernel
theorem dX6_init_9 : decode cX6_init 9 = .ok (.invokespecial 11, 3) := by decide +kernel
theorem dX6_init_12 : decode cX6_init 12 = .ok (.putfield 12, 3) := by decide +kernel
theorem dX6_init_15 : decode cX6_init 15 = .ok (.aload_n 0, 1) := by decide +kernel
theorem dX6_init_16 : decode cX6_init 16 = .ok (.new 9, 3) := by decide +kernel
theorem dX6_init_19 : decode cX6_init 19 = .ok (.dup, 1) := by decide +kernel
theorem dX6_init_20 : decode cX6_init 20 = .ok (.invokespecial 11, 3) := by decide +kernel
theorem dX6_init_23 : decode cX6_init 23 = .ok (.putfield 16, 3) := by decide +kernel
theorem dX6_init_26 : decode cX6_init 26 = .ok (.aload_n 0, 1) := by decide +kernel
theorem dX6_init_27 : decode cX6_init 27 = .ok (.iconst 2, 1) := by decide +kernel
theorem dX6_init_28 : decode cX6_init 28 = .ok (.anewarray 9, 3) := by decide +kernel
theorem dX6_init_31 : decode cX6_init 31 = .ok (.putfield 19, 3) := by decide +kernel
theorem dX6_init_34 : decode cX6_init 34 = .ok (.aload_n 0, 1) := by decide +kernel
theorem dX6_init_35 : decode cX6_init 35 = .ok (.new 23, 3) := by decide +kernel
theorem dX6_init_38 : decode cX6_init 38 = .ok (.dup, 1) := by decide +kernel
theorem dX6_init_39 : decode cX6_init 39 = .ok (.invokespecial 25, 3) := by decide +kernel
theorem dX6_init_42 : decode cX6_init 42 = .ok (.putfield 26, 3) := by decide +kernel
theorem dX6_init_45 : decode cX6_init 45 = .ok (.aload_n 0, 1) := by decide +kernel
theorem dX6_init_46 : decode cX6_init 46 = .ok (.new 30, 3) := by decide +kernel
theorem dX6_init_49 : decode cX6_init 49 = .ok (.dup, 1) := by decide +kernel
theorem dX6_init_50 : decode cX6_init 50 = .ok (.invokespecial 32, 3) := by decide +kernel
theorem dX6_init_53 : decode cX6_init 53 = .ok (.putfield 33, 3) := by decide +kernel
theorem dX6_init_56 : decode cX6_init 56 = .ok (.aload_n 0, 1) := by decide +kernel
theorem dX6_init_57 : decode cX6_init 57 = .ok (.new 37, 3) := by decide +kernel
theorem dX6_init_60 : decode cX6_init 60 = .ok (.dup, 1) := by decide +kernel
theorem dX6_init_61 : decode cX6_init 61 = .ok (.invokespecial 39, 3) := by decide +kernel
theorem dX6_init_64 : decode cX6_init 64 = .ok (.putfield 40, 3) := by decide +kernel
theorem dX6_init_67 : decode cX6_init 67 = .ok (.aload_n 0, 1) := by decide +kernel
theorem dX6_init_68 : decode cX6_init 68 = .ok (.new 44, 3) := by decide +kernel
theorem dX6_init_71 : decode cX6_init 71 = .ok (.dup, 1) := by decide +kernel
theorem dX6_init_72 : decode cX6_init 72 = .ok (.invokespecial 46, 3) := by decide +kernel
theorem dX6_init_75 : decode cX6_init 75 = .ok (.putfield 47, 3) := by decide +kernel
theorem dX6_init_78 : decode cX6_init 78 = .ok (.aload_n 0, 1) := by decide +kernel
theorem dX6_init_79 : decode cX6_init 79 = .ok (.iconst 0, 1) := by decide +kernel
theorem dX6_init_80 : decode cX6_init 80 = .ok (.putfield 51, 3) := by decide +kernel
theorem dX6_init_83 : decode cX6_init 83 = .ok (.aload_n 0, 1) := by decide +kernel
theorem dX6_init_84 : decode cX6_init 84 = .ok (.iconst 1, 1) := by decide +kernel
theorem dX6_init_85 : decode cX6_init 85 = .ok (.putfield 55, 3) := by decide +kernel
theorem dX6_init_88 : decode cX6_init 88 = .ok (.aload_n 0, 1) := by decide +kernel
theorem dX6_init_89 : decode cX6_init 89 = .ok (.iconst 0, 1) := by decide +kernel
theorem dX6_init_90 : decode cX6_init 90 = .ok (.putfield 58, 3) := by decide +kernel
theorem dX6_init_93 : decode cX6_init 93 = .ok (.aload_n 0, 1) := by decide +kernel
theorem dX6_init_94 : decode cX6_init 94 = .ok (.iconst 0, 1) := by decide +kernel
theorem dX6_init_95 : decode cX6_init 95 = .ok (.putfield 61, 3) := by decide +kernel
theorem dX6_init_98 : decode cX6_init 98 = .ok (.aload_n 0, 1) := by decide +kernel
theorem dX6_init_99 : decode cX6_init 99 = .ok (.iconst 0, 1) := by decide +kernel
theorem dX6_init_100 : decode cX6_init 100 = .ok (.putfield 64, 3) := by decide +kernel
theorem dX6_init_103 : decode cX6_init 103 = .ok (.return_, 1) := by decide +kernel
theorem dX6_hill_0 : decode cX6_hill 0 = .ok (.iload_n 1, 1) := by decide +kernel
theorem dX6_hill_1 : decode cX6_hill 1 = .ok (.iload_n 2, 1) := by decide +kernel
theorem dX6_hill_2 : decode cX6_hill 2 = .ok (.invokestatic 67, 3) := by decide +kernel
theorem dX6_hill_5 : decode cX6_hill 5 = .ok (.ifCond .ne 10, 3) := by decide +kernel
theorem dX6_hill_8 : decode cX6_hill 8 = .ok (.aload_n 0, 1) := by decide +kernel
theorem dX6_hill_9 : decode cX6_hill 9 = .ok (.bipush (-2), 2) := by decide +kernel
theorem dX6_hill_11 : decode cX6_hill 11 = .ok (.invokevirtual 71, 3) := by decide +kernel
theorem dX6_hill_14 : decode cX6_hill 14 = .ok (.ireturn, 1) := by decide +kernel
theorem dX6_hill_15 : decode cX6_hill 15 = .ok (.aload_n 0, 1) := by decide +kernel
theorem dX6_hill_16 : decode cX6_hill 16 = .ok (.getfield 12, 3) := by decide +kernel
theorem dX6_hill_19 : decode cX6_hill 19 = .ok (.getfield 75, 3) := by decide +kernel
theorem dX6_hill_22 : decode cX6_hill 22 = .ok (.istore_n 3, 1) := by decide +kernel
theorem dX6_hill_23 : decode cX6_hill 23 = .ok (.aload_n 0, 1) := by decide +kernel
theorem dX6_hill_24 : decode cX6_hill 24 = .ok (.getfield 12, 3) := by decide +kernel
theorem dX6_hill_27 : decode cX6_hill 27 = .ok (.iload_n 1, 1) := by decide +kernel
theorem dX6_hill_28 : decode cX6_hill 28 = .ok (.iload_n 2, 1) := by decide +kernel
theorem dX6_hill_29 : decode cX6_hill 29 = .ok (.invokevirtual 78, 3) := by decide +kernel
theorem dX6_hill_32 : decode cX6_hill 32 = .ok (.iload_n 3, 1) := by decide +kernel
theorem dX6_hill_33 : decode cX6_hill 33 = .ok (.ireturn, 1) := by decide +kernel
theorem dX6_track_0 : decode cX6_track 0 = .ok (.iload_n 1, 1) := by decide +kernel
theorem dX6_track_1 : decode cX6_track 1 = .ok (.iload_n 2, 1) := by decide +kernel
theorem dX6_track_2 : decode cX6_track 2 = .ok (.invokestatic 67, 3) := by decide +kernel
theorem dX6_track_5 : decode cX6_track 5 = .ok (.ifCond .ne 10, 3) := by decide +kernel
theorem dX6_track_8 : decode cX6_track 8 = .ok (.aload_n 0, 1) := by decide +kernel
theorem dX6_track_9 : decode cX6_track 9 = .ok (.bipush (-2), 2) := by decide +kernel
theorem dX6_track_11 : decode cX6_track 11 = .ok (.invokevirtual 71, 3) := by decide +kernel
theorem dX6_track_14 : decode cX6_track 14 = .ok (.ireturn, 1) := by decide +kernel
theorem dX6_track_15 : decode cX6_track 15 = .ok (.aload_n 0, 1) := by decide +kernel
theorem dX6_track_16 : decode cX6_track 16 = .ok (.getfield 12, 3) := by decide +kernel
theorem dX6_track_19 : decode cX6_track 19 = .ok (.iload_n 1, 1) := by decide +kernel
theorem dX6_track_20 : decode cX6_track 20 = .ok (.putfield 82, 3) := by decide +kernel
theorem dX6_track_23 : decode cX6_track 23 = .ok (.aload_n 0, 1) := by decide +kernel
theorem dX6_track_24 : decode cX6_track 24 = .ok (.getfield 12, 3) := by decide +kernel
theorem dX6_track_27 : decode cX6_track 27 = .ok (.iload_n 2, 1) := by decide +kernel
theorem dX6_track_28 : decode cX6_track 28 = .ok (.putfield 85, 3) := by decide +kernel
theorem dX6_track_31 : decode cX6_track 31 = .ok (.aload_n 0, 1) := by decide +kernel
theorem dX6_track_32 : decode cX6_track 32 = .ok (.getfield 12, 3) := by decide +kernel
theorem dX6_track_35 : decode cX6_track 35 = .ok (.iconst 0, 1) := by decide +kernel
theorem dX6_track_36 : decode cX6_track 36 = .ok (.putfield 88, 3) := by decide +kernel
theorem dX6_track_39 : decode cX6_track 39 = .ok (.iconst 1, 1) := by decide +kernel
theorem dX6_track_40 : decode cX6_track 40 = .ok (.ireturn, 1) := by decide +kernel
theorem dX6_height_0 : decode cX6_height 0 = .ok (.iload_n 1, 1) := by decide +kernel
theorem dX6_height_1 : decode cX6_height 1 = .ok (.invokestatic 91, 3) := by decide +kernel
theorem dX6_height_4 : decode cX6_height 4 = .ok (.ifCond .eq 12, 3) := by decide +kernel
theorem dX6_height_7 : decode cX6_height 7 = .ok (.iload_n 2, 1) := by decide +kernel
theorem dX6_height_8 : decode cX6_height 8 = .ok (.bipush 9, 2) := by decide +kernel
theorem dX6_height_10 : decode cX6_height 10 = .ok (.invokestatic 95, 3) := by decide +kernel
theorem dX6_height_13 : decode cX6_height 13 = .ok (.ifCond .ne 10, 3) := by decide +kernel
theorem dX6_height_16 : decode cX6_height 16 = .ok (.aload_n 0, 1) := by decide +kernel
theorem dX6_height_17 : decode cX6_height 17 = .ok (.bipush (-2), 2) := by decide +kernel
theorem dX6_height_19 : decode cX6_height 19 = .ok (.invokevirtual 71, 3) := by decide +kernel
theorem dX6_height_22 : decode cX6_height 22 = .ok (.ireturn, 1) := by decide +kernel
theorem dX6_height_23 : decode cX6_height 23 = .ok (.aload_n 0, 1) := by decide +kernel
theorem dX6_height_24 : decode cX6_height 24 = .ok (.getfield 12, 3) := by decide +kernel
theorem dX6_height_27 : decode cX6_height 27 = .ok (.getfield 98, 3) := by decide +kernel
theorem dX6_height_30 : decode cX6_height 30 = .ok (.iload_n 1, 1) := by decide +kernel
theorem dX6_height_31 : decode cX6_height 31 = .ok (.iaload, 1) := by decide +kernel
theorem dX6_height_32 : decode cX6_height 32 = .ok (.istore_n 3, 1) := by decide +kernel
theorem dX6_height_33 : decode cX6_height 33 = .ok (.aload_n 0, 1) := by decide +kernel
theorem dX6_height_34 : decode cX6_height 34 = .ok (.getfield 12, 3) := by decide +kernel
theorem dX6_height_37 : decode cX6_height 37 = .ok (.getfield 98, 3) := by decide +kernel
theorem dX6_height_40 : decode cX6_height 40 = .ok (.iload_n 1, 1) := by decide +kernel
theorem dX6_height_41 : decode cX6_height 41 = .ok (.iload_n 2, 1) := by decide +kernel
theorem dX6_height_42 : decode cX6_height 42 = .ok (.iastore, 1) := by decide +kernel
theorem dX6_height_43 : decode cX6_height 43 = .ok (.aload_n 0, 1) := by decide +kernel
theorem dX6_height_44 : decode cX6_height 44 = .ok (.getfield 12, 3) := by decide +kernel
theorem dX6_height_47 : decode cX6_height 47 = .ok (.iconst 0, 1) := by decide +kernel
theorem dX6_height_48 : decode cX6_height 48 = .ok (.putfield 88, 3) := by decide +kernel
theorem dX6_height_51 : decode cX6_height 51 = .ok (.iload_n 3, 1) := by decide +kernel
theorem dX6_height_52 : decode cX6_height 52 = .ok (.ireturn, 1) := by decide +kernel
theorem dX6_one_0 : decode cX6_one 0 = .ok (.iload_n 1, 1) := by decide +kernel
theorem dX6_one_1 : decode cX6_one 1 = .ok (.iconst 5, 1) := by decide +kernel
theorem dX6_one_2 : decode cX6_one 2 = .ok (.invokestatic 95, 3) := by decide +kernel
theorem dX6_one_5 : decode cX6_one 5 = .ok (.ifCond .eq 13, 3) := by decide +kernel
theorem dX6_one_8 : decode cX6_one 8 = .ok (.iload_n 2, 1) := by decide +kernel
theorem dX6_one_9 : decode cX6_one 9 = .ok (.sipush 500, 3) := by decide +kernel
theorem dX6_one_12 : decode cX6_one 12 = .ok (.invokestatic 95, 3) := by decide +kernel
theorem dX6_one_15 : decode cX6_one 15 = .ok (.ifCond .ne 10, 3) := by decide +kernel
theorem dX6_one_18 : decode cX6_one 18 = .ok (.aload_n 0, 1) := by decide +kernel
theorem dX6_one_19 : decode cX6_one 19 = .ok (.bipush (-2), 2) := by decide +kernel
theorem dX6_one_21 : decode cX6_one 21 = .ok (.invokevirtual 71, 3) := by decide +kernel
theorem dX6_one_24 : decode cX6_one 24 = .ok (.ireturn, 1) := by decide +kernel
theorem dX6_one_25 : decode cX6_one 25 = .ok (.aload_n 0, 1) := by decide +kernel
theorem dX6_one_26 : decode cX6_one 26 = .ok (.getfield 12, 3) := by decide +kernel
theorem dX6_one_29 : decode cX6_one 29 = .ok (.getfield 75, 3) := by decide +kernel
theorem dX6_one_32 : decode cX6_one 32 = .ok (.iconst 5, 1) := by decide +kernel
theorem dX6_one_33 : decode cX6_one 33 = .ok (.if_icmp .lt 8, 3) := by decide +kernel
theorem dX6_one_36 : decode cX6_one 36 = .ok (.aload_n 0, 1) := by decide +kernel
theorem dX6_one_37 : decode cX6_one 37 = .ok (.invokevirtual 104, 3) := by decide +kernel
theorem dX6_one_40 : decode cX6_one 40 = .ok (.ireturn, 1) := by decide +kernel
theorem dX6_one_41 : decode cX6_one 41 = .ok (.aload_n 0, 1) := by decide +kernel
theorem dX6_one_42 : decode cX6_one 42 = .ok (.getfield 12, 3) := by decide +kernel
theorem dX6_one_45 : decode cX6_one 45 = .ok (.iconst 0, 1) := by decide +kernel
theorem dX6_one_46 : decode cX6_one 46 = .ok (.putfield 88, 3) := by decide +kernel
theorem dX6_one_49 : decode cX6_one 49 = .ok (.aload_n 0, 1) := by decide +kernel
theorem dX6_one_50 : decode cX6_one 50 = .ok (.getfield 12, 3) := by decide +kernel
theorem dX6_one_53 : decode cX6_one 53 = .ok (.iload_n 1, 1) := by decide +kernel
theorem dX6_one_54 : decode cX6_one 54 = .ok (.iload_n 2, 1) := by decide +kernel
theorem dX6_one_55 : decode cX6_one 55 = .ok (.invokevirtual 108, 3) := by decide +kernel
theorem dX6_one_58 : decode cX6_one 58 = .ok (.ireturn, 1) := by decide +kernel
theorem dX6_type_0 : decode cX6_type 0 = .ok (.iload_n 1, 1) := by decide +kernel
theorem dX6_type_1 : decode cX6_type 1 = .ok (.bipush 127, 2) := by decide +kernel
theorem dX6_type_3 : decode cX6_type 3 = .ok (.invokestatic 95, 3) := by decide +kernel
theorem dX6_type_6 : decode cX6_type 6 = .ok (.ifCond .ne 10, 3) := by decide +kernel
theorem dX6_type_9 : decode cX6_type 9 = .ok (.aload_n 0, 1) := by decide +kernel
theorem dX6_type_10 : decode cX6_type 10 = .ok (.bipush (-2), 2) := by decide +kernel
theorem dX6_type_12 : decode cX6_type 12 = .ok (.invokevirtual 71, 3) := by decide +kernel
theorem dX6_type_15 : decode cX6_type 15 = .ok (.ireturn, 1) := by decide +kernel
theorem dX6_type_16 : decode cX6_type 16 = .ok (.aload_n 0, 1) := by decide +kernel
theorem dX6_type_17 : decode cX6_type 17 = .ok (.getfield 26, 3) := by decide +kernel
theorem dX6_type_20 : decode cX6_type 20 = .ok (.getfield 112, 3) := by decide +kernel
theorem dX6_type_23 : decode cX6_type 23 = .ok (.sipush 150, 3) := by decide +kernel
theorem dX6_type_26 : decode cX6_type 26 = .ok (.if_icmp .lt 8, 3) := by decide +kernel
theorem dX6_type_29 : decode cX6_type 29 = .ok (.aload_n 0, 1) := by decide +kernel
theorem dX6_type_30 : decode cX6_type 30 = .ok (.invokevirtual 104, 3) := by decide +kernel
theorem dX6_type_33 : decode cX6_type 33 = .ok (.ireturn, 1) := by decide +kernel
theorem dX6_type_34 : decode cX6_type 34 = .ok (.aload_n 0, 1) := by decide +kernel
theorem dX6_type_35 : decode cX6_type 35 = .ok (.getfield 26, 3) := by decide +kernel
theorem dX6_type_38 : decode cX6_type 38 = .ok (.getfield 115, 3) := by decide +kernel
theorem dX6_type_41 : decode cX6_type 41 = .ok (.aload_n 0, 1) := by decide +kernel
theorem dX6_type_42 : decode cX6_type 42 = .ok (.getfield 26, 3) := by decide +kernel
theorem dX6_type_45 : decode cX6_type 45 = .ok (.getfield 112, 3) := by decide +kernel
theorem dX6_type_48 : decode cX6_type 48 = .ok (.iload_n 1, 1) := by decide +kernel
theorem dX6_type_49 : decode cX6_type 49 = .ok (.i2b, 1) := by decide +kernel
theorem dX6_type_50 : decode cX6_type 50 = .ok (.bastore, 1) := by decide +kernel
theorem dX6_type_51 : decode cX6_type 51 = .ok (.aload_n 0, 1) := by decide +kernel
theorem dX6_type_52 : decode cX6_type 52 = .ok (.getfield 26, 3) := by decide +kernel
theorem dX6_type_55 : decode cX6_type 55 = .ok (.dup, 1) := by decide +kernel
theorem dX6_type_56 : decode cX6_type 56 = .ok (.getfield 112, 3) := by decide +kernel
theorem dX6_type_59 : decode cX6_type 59 = .ok (.iconst 1, 1) := by decide +kernel
theorem dX6_type_60 : decode cX6_type 60 = .ok (.iadd, 1) := by decide +kernel
theorem dX6_type_61 : decode cX6_type 61 = .ok (.putfield 112, 3) := by decide +kernel
theorem dX6_type_64 : decode cX6_type 64 = .ok (.aload_n 0, 1) := by decide +kernel
theorem dX6_type_65 : decode cX6_type 65 = .ok (.getfield 26, 3) := by decide +kernel
theorem dX6_type_68 : decode cX6_type 68 = .ok (.getfield 112, 3) := by decide +kernel
theorem dX6_type_71 : decode cX6_type 71 = .ok (.ireturn, 1) := by decide +kernel
theorem dX6_clear_0 : decode cX6_clear 0 = .ok (.aload_n 0, 1) := by decide +kernel
theorem dX6_clear_1 : decode cX6_clear 1 = .ok (.getfield 26, 3) := by decide +kernel
theorem dX6_clear_4 : decode cX6_clear 4 = .ok (.getfield 112, 3) := by decide +kernel
theorem dX6_clear_7 : decode cX6_clear 7 = .ok (.istore_n 1, 1) := by decide +kernel
theorem dX6_clear_8 : decode cX6_clear 8 = .ok (.aload_n 0, 1) := by decide +kernel
theorem dX6_clear_9 : decode cX6_clear 9 = .ok (.getfield 26, 3) := by decide +kernel
theorem dX6_clear_12 : decode cX6_clear 12 = .ok (.iconst 0, 1) := by decide +kernel
theorem dX6_clear_13 : decode cX6_clear 13 = .ok (.putfield 112, 3) := by decide +kernel
theorem dX6_clear_16 : decode cX6_clear 16 = .ok (.iload_n 1, 1) := by decide +kernel
theorem dX6_clear_17 : decode cX6_clear 17 = .ok (.ireturn, 1) := by decide +kernel
theorem dX6_read_0 : decode cX6_read 0 = .ok (.aload_n 0, 1) := by decide +kernel
theorem dX6_read_1 : decode cX6_read 1 = .ok (.getfield 26, 3) := by decide +kernel
theorem dX6_read_4 : decode cX6_read 4 = .ok (.aload_n 0, 1) := by decide +kernel
theorem dX6_read_5 : decode cX6_read 5 = .ok (.getfield 16, 3) := by decide +kernel
theorem dX6_read_8 : decode cX6_read 8 = .ok (.invokevirtual 119, 3) := by decide +kernel
theorem dX6_read_11 : decode cX6_read 11 = .ok (.istore_n 1, 1) := by decide +kernel
theorem dX6_read_12 : decode cX6_read 12 = .ok (.iload_n 1, 1) := by decide +kernel
theorem dX6_read_13 : decode cX6_read 13 = .ok (.ifCond .lt 14, 3) := by decide +kernel
theorem dX6_read_16 : decode cX6_read 16 = .ok (.aload_n 0, 1) := by decide +kernel
theorem dX6_read_17 : decode cX6_read 17 = .ok (.getfield 12, 3) := by decide +kernel
theorem dX6_read_20 : decode cX6_read 20 = .ok (.aload_n 0, 1) := by decide +kernel
theorem dX6_read_21 : decode cX6_read 21 = .ok (.getfield 16, 3) := by decide +kernel
theorem dX6_read_24 : decode cX6_read 24 = .ok (.invokevirtual 123, 3) := by decide +kernel
theorem dX6_read_27 : decode cX6_read 27 = .ok (.iload_n 1, 1) := by decide +kernel
theorem dX6_read_28 : decode cX6_read 28 = .ok (.ireturn, 1) := by decide +kernel
theorem dX6_sell_0 : decode cX6_sell 0 = .ok (.iload_n 1, 1) := by decide +kernel
theorem dX6_sell_1 : decode cX6_sell 1 = .ok (.invokestatic 91, 3) := by decide +kernel
theorem dX6_sell_4 : decode cX6_sell 4 = .ok (.ifCond .ne 10, 3) := by decide +kernel
theorem dX6_sell_7 : decode cX6_sell 7 = .ok (.aload_n 0, 1) := by decide +kernel
theorem dX6_sell_8 : decode cX6_sell 8 = .ok (.bipush (-2), 2) := by decide +kernel
theorem dX6_sell_10 : decode cX6_sell 10 = .ok (.invokevirtual 71, 3) := by decide +kernel
theorem dX6_sell_13 : decode cX6_sell 13 = .ok (.ireturn, 1) := by decide +kernel
theorem dX6_sell_14 : decode cX6_sell 14 = .ok (.aload_n 0, 1) := by decide +kernel
theorem dX6_sell_15 : decode cX6_sell 15 = .ok (.getfield 12, 3) := by decide +kernel
theorem dX6_sell_18 : decode cX6_sell 18 = .ok (.iload_n 1, 1) := by decide +kernel
theorem dX6_sell_19 : decode cX6_sell 19 = .ok (.invokevirtual 127, 3) := by decide +kernel
theorem dX6_sell_22 : decode cX6_sell 22 = .ok (.iconst (-1), 1) := by decide +kernel
theorem dX6_sell_23 : decode cX6_sell 23 = .ok (.if_icmp .eq 8, 3) := by decide +kernel
theorem dX6_sell_26 : decode cX6_sell 26 = .ok (.aload_n 0, 1) := by decide +kernel
theorem dX6_sell_27 : decode cX6_sell 27 = .ok (.invokevirtual 130, 3) := by decide +kernel
theorem dX6_sell_30 : decode cX6_sell 30 = .ok (.ireturn, 1) := by decide +kernel
theorem dX6_sell_31 : decode cX6_sell 31 = .ok (.aload_n 0, 1) := by decide +kernel
theorem dX6_sell_32 : decode cX6_sell 32 = .ok (.getfield 12, 3) := by decide +kernel
theorem dX6_sell_35 : decode cX6_sell 35 = .ok (.iload_n 1, 1) := by decide +kernel
theorem dX6_sell_36 : decode cX6_sell 36 = .ok (.invokevirtual 133, 3) := by decide +kernel
theorem dX6_sell_39 : decode cX6_sell 39 = .ok (.istore_n 2, 1) := by decide +kernel
theorem dX6_sell_40 : decode cX6_sell 40 = .ok (.iload_n 2, 1) := by decide +kernel
theorem dX6_sell_41 : decode cX6_sell 41 = .ok (.iconst (-1), 1) := by decide +kernel
theorem dX6_sell_42 : decode cX6_sell 42 = .ok (.if_icmp .ne 8, 3) := by decide +kernel
theorem dX6_sell_45 : decode cX6_sell 45 = .ok (.aload_n 0, 1) := by decide +kernel
theorem dX6_sell_46 : decode cX6_sell 46 = .ok (.invokevirtual 130, 3) := by decide +kernel
theorem dX6_sell_49 : decode cX6_sell 49 = .ok (.ireturn, 1) := by decide +kernel
theorem dX6_sell_50 : decode cX6_sell 50 = .ok (.aload_n 0, 1) := by decide +kernel
theorem dX6_sell_51 : decode cX6_sell 51 = .ok (.getfield 12, 3) := by decide +kernel
theorem dX6_sell_54 : decode cX6_sell 54 = .ok (.iload_n 1, 1) := by decide +kernel
theorem dX6_sell_55 : decode cX6_sell 55 = .ok (.iload_n 2, 1) := by decide +kernel
theorem dX6_sell_56 : decode cX6_sell 56 = .ok (.invokevirtual 136, 3) := by decide +kernel
theorem dX6_sell_59 : decode cX6_sell 59 = .ok (.istore_n 3, 1) := by decide +kernel
theorem dX6_sell_60 : decode cX6_sell 60 = .ok (.aload_n 0, 1) := by decide +kernel
theorem dX6_sell_61 : decode cX6_sell 61 = .ok (.getfield 12, 3) := by decide +kernel
theorem dX6_sell_64 : decode cX6_sell 64 = .ok (.invokevirtual 139, 3) := by decide +kernel
theorem dX6_sell_67 : decode cX6_sell 67 = .ok (.aload_n 0, 1) := by decide +kernel
theorem dX6_sell_68 : decode cX6_sell 68 = .ok (.getfield 12, 3) := by decide +kernel
theorem dX6_sell_71 : decode cX6_sell 71 = .ok (.getfield 142, 3) := by decide +kernel
theorem dX6_sell_74 : decode cX6_sell 74 = .ok (.iload_n 2, 1) := by decide +kernel
theorem dX6_sell_75 : decode cX6_sell 75 = .ok (.dup2, 1) := by decide +kernel
theorem dX6_sell_76 : decode cX6_sell 76 = .ok (.iaload, 1) := by decide +kernel
theorem dX6_sell_77 : decode cX6_sell 77 = .ok (.iload_n 3, 1) := by decide +kernel
theorem dX6_sell_78 : decode cX6_sell 78 = .ok (.isub, 1) := by decide +kernel
theorem dX6_sell_79 : decode cX6_sell 79 = .ok (.iastore, 1) := by decide +kernel
theorem dX6_sell_80 : decode cX6_sell 80 = .ok (.aload_n 0, 1) := by decide +kernel
theorem dX6_sell_81 : decode cX6_sell 81 = .ok (.getfield 12, 3) := by decide +kernel
theorem dX6_sell_84 : decode cX6_sell 84 = .ok (.getfield 145, 3) := by decide +kernel
theorem dX6_sell_87 : decode cX6_sell 87 = .ok (.iload_n 2, 1) := by decide +kernel
theorem dX6_sell_88 : decode cX6_sell 88 = .ok (.dup2, 1) := by decide +kernel
theorem dX6_sell_89 : decode cX6_sell 89 = .ok (.iaload, 1) := by decide +kernel
theorem dX6_sell_90 : decode cX6_sell 90 = .ok (.iload_n 3, 1) := by decide +kernel
theorem dX6_sell_91 : decode cX6_sell 91 = .ok (.iadd, 1) := by decide +kernel
theorem dX6_sell_92 : decode cX6_sell 92 = .ok (.iastore, 1) := by decide +kernel
theorem dX6_sell_93 : decode cX6_sell 93 = .ok (.aload_n 0, 1) := by decide +kernel
theorem dX6_sell_94 : decode cX6_sell 94 = .ok (.getfield 12, 3) := by decide +kernel
theorem dX6_sell_97 : decode cX6_sell 97 = .ok (.getfield 148, 3) := by decide +kernel
theorem dX6_sell_100 : decode cX6_sell 100 = .ok (.iload_n 2, 1) := by decide +kernel
theorem dX6_sell_101 : decode cX6_sell 101 = .ok (.iload_n 1, 1) := by decide +kernel
theorem dX6_sell_102 : decode cX6_sell 102 = .ok (.iastore, 1) := by decide +kernel
theorem dX6_sell_103 : decode cX6_sell 103 = .ok (.iload_n 2, 1) := by decide +kernel
theorem dX6_sell_104 : decode cX6_sell 104 = .ok (.ireturn, 1) := by decide +kernel
theorem dX6_leave_0 : decode cX6_leave 0 = .ok (.aload_n 0, 1) := by decide +kernel
theorem dX6_leave_1 : decode cX6_leave 1 = .ok (.iload_n 1, 1) := by decide +kernel
theorem dX6_leave_2 : decode cX6_leave 2 = .ok (.invokevirtual 151, 3) := by decide +kernel
theorem dX6_leave_5 : decode cX6_leave 5 = .ok (.ifCond .ne 10, 3) := by decide +kernel
theorem dX6_leave_8 : decode cX6_leave 8 = .ok (.aload_n 0, 1) := by decide +kernel
theorem dX6_leave_9 : decode cX6_leave 9 = .ok (.bipush (-2), 2) := by decide +kernel
theorem dX6_leave_11 : decode cX6_leave 11 = .ok (.invokevirtual 71, 3) := by decide +kernel
theorem dX6_leave_14 : decode cX6_leave 14 = .ok (.ireturn, 1) := by decide +kernel
theorem dX6_leave_15 : decode cX6_leave 15 = .ok (.aload_n 0, 1) := by decide +kernel
theorem dX6_leave_16 : decode cX6_leave 16 = .ok (.getfield 12, 3) := by decide +kernel
theorem dX6_leave_19 : decode cX6_leave 19 = .ok (.getfield 148, 3) := by decide +kernel
theorem dX6_leave_22 : decode cX6_leave 22 = .ok (.iload_n 1, 1) := by decide +kernel
theorem dX6_leave_23 : decode cX6_leave 23 = .ok (.iaload, 1) := by decide +kernel
theorem dX6_leave_24 : decode cX6_leave 24 = .ok (.istore_n 2, 1) := by decide +kernel
theorem dX6_leave_25 : decode cX6_leave 25 = .ok (.iload_n 2, 1) := by decide +kernel
theorem dX6_leave_26 : decode cX6_leave 26 = .ok (.iconst (-1), 1) := by decide +kernel
theorem dX6_leave_27 : decode cX6_leave 27 = .ok (.if_icmp .ne 8, 3) := by decide +kernel
theorem dX6_leave_30 : decode cX6_leave 30 = .ok (.aload_n 0, 1) := by decide +kernel
theorem dX6_leave_31 : decode cX6_leave 31 = .ok (.invokevirtual 130, 3) := by decide +kernel
theorem dX6_leave_34 : decode cX6_leave 34 = .ok (.ireturn, 1) := by decide +kernel
theorem dX6_leave_35 : decode cX6_leave 35 = .ok (.aload_n 0, 1) := by decide +kernel
theorem dX6_leave_36 : decode cX6_leave 36 = .ok (.getfield 12, 3) := by decide +kernel
theorem dX6_leave_39 : decode cX6_leave 39 = .ok (.invokevirtual 139, 3) := by decide +kernel
theorem dX6_leave_42 : decode cX6_leave 42 = .ok (.aload_n 0, 1) := by decide +kernel
theorem dX6_leave_43 : decode cX6_leave 43 = .ok (.getfield 12, 3) := by decide +kernel
theorem dX6_leave_46 : decode cX6_leave 46 = .ok (.getfield 148, 3) := by decide +kernel
theorem dX6_leave_49 : decode cX6_leave 49 = .ok (.iload_n 1, 1) := by decide +kernel
theorem dX6_leave_50 : decode cX6_leave 50 = .ok (.iconst (-1), 1) := by decide +kernel
theorem dX6_leave_51 : decode cX6_leave 51 = .ok (.iastore, 1) := by decide +kernel
theorem dX6_leave_52 : decode cX6_leave 52 = .ok (.iload_n 2, 1) := by decide +kernel
theorem dX6_leave_53 : decode cX6_leave 53 = .ok (.ireturn, 1) := by decide +kernel
theorem dX6_moves_0 : decode cX6_moves 0 = .ok (.aload_n 0, 1) := by decide +kernel
theorem dX6_moves_1 : decode cX6_moves 1 = .ok (.iload_n 1, 1) := by decide +kernel
theorem dX6_moves_2 : decode cX6_moves 2 = .ok (.invokevirtual 151, 3) := by decide +kernel
theorem dX6_moves_5 : decode cX6_moves 5 = .ok (.ifCond .eq 10, 3) := by decide +kernel
theorem dX6_moves_8 : decode cX6_moves 8 = .ok (.iload_n 2, 1) := by decide +kernel
theorem dX6_moves_9 : decode cX6_moves 9 = .ok (.invokestatic 91, 3) := by decide +kernel
theorem dX6_moves_12 : decode cX6_moves 12 = .ok (.ifCond .ne 10, 3) := by decide +kernel
theorem dX6_moves_15 : decode cX6_moves 15 = .ok (.aload_n 0, 1) := by decide +kernel
theorem dX6_moves_16 : decode cX6_moves 16 = .ok (.bipush (-2), 2) := by decide +kernel
theorem dX6_moves_18 : decode cX6_moves 18 = .ok (.invokevirtual 71, 3) := by decide +kernel
theorem dX6_moves_21 : decode cX6_moves 21 = .ok (.ireturn, 1) := by decide +kernel
theorem dX6_moves_22 : decode cX6_moves 22 = .ok (.aload_n 0, 1) := by decide +kernel
theorem dX6_moves_23 : decode cX6_moves 23 = .ok (.getfield 12, 3) := by decide +kernel
theorem dX6_moves_26 : decode cX6_moves 26 = .ok (.getfield 148, 3) := by decide +kernel
theorem dX6_moves_29 : decode cX6_moves 29 = .ok (.iload_n 1, 1) := by decide +kernel
theorem dX6_moves_30 : decode cX6_moves 30 = .ok (.iaload, 1) := by decide +kernel
theorem dX6_moves_31 : decode cX6_moves 31 = .ok (.istore_n 3, 1) := by decide +kernel
theorem dX6_moves_32 : decode cX6_moves 32 = .ok (.iload_n 3, 1) := by decide +kernel
theorem dX6_moves_33 : decode cX6_moves 33 = .ok (.iconst (-1), 1) := by decide +kernel
theorem dX6_moves_34 : decode cX6_moves 34 = .ok (.if_icmp .eq 15, 3) := by decide +kernel
theorem dX6_moves_37 : decode cX6_moves 37 = .ok (.aload_n 0, 1) := by decide +kernel
theorem dX6_moves_38 : decode cX6_moves 38 = .ok (.getfield 12, 3) := by decide +kernel
theorem dX6_moves_41 : decode cX6_moves 41 = .ok (.iload_n 2, 1) := by decide +kernel
theorem dX6_moves_42 : decode cX6_moves 42 = .ok (.invokevirtual 127, 3) := by decide +kernel
theorem dX6_moves_45 : decode cX6_moves 45 = .ok (.iconst (-1), 1) := by decide +kernel
theorem dX6_moves_46 : decode cX6_moves 46 = .ok (.if_icmp .eq 8, 3) := by decide +kernel
theorem dX6_moves_49 : decode cX6_moves 49 = .ok (.aload_n 0, 1) := by decide +kernel
theorem dX6_moves_50 : decode cX6_moves 50 = .ok (.invokevirtual 130, 3) := by decide +kernel
theorem dX6_moves_53 : decode cX6_moves 53 = .ok (.ireturn, 1) := by decide +kernel
theorem dX6_moves_54 : decode cX6_moves 54 = .ok (.aload_n 0, 1) := by decide +kernel
theorem dX6_moves_55 : decode cX6_moves 55 = .ok (.getfield 12, 3) := by decide +kernel
theorem dX6_moves_58 : decode cX6_moves 58 = .ok (.invokevirtual 139, 3) := by decide +kernel
theorem dX6_moves_61 : decode cX6_moves 61 = .ok (.aload_n 0, 1) := by decide +kernel
theorem dX6_moves_62 : decode cX6_moves 62 = .ok (.getfield 12, 3) := by decide +kernel
theorem dX6_moves_65 : decode cX6_moves 65 = .ok (.getfield 148, 3) := by decide +kernel
theorem dX6_moves_68 : decode cX6_moves 68 = .ok (.iload_n 1, 1) := by decide +kernel
theorem dX6_moves_69 : decode cX6_moves 69 = .ok (.iload_n 2, 1) := by decide +kernel
theorem dX6_moves_70 : decode cX6_moves 70 = .ok (.iastore, 1) := by decide +kernel
theorem dX6_moves_71 : decode cX6_moves 71 = .ok (.iload_n 3, 1) := by decide +kernel
theorem dX6_moves_72 : decode cX6_moves 72 = .ok (.ireturn, 1) := by decide +kernel
theorem dX6_undo_0 : decode cX6_undo 0 = .ok (.aload_n 0, 1) := by decide +kernel
theorem dX6_undo_1 : decode cX6_undo 1 = .ok (.getfield 12, 3) := by decide +kernel
theorem dX6_undo_4 : decode cX6_undo 4 = .ok (.getfield 88, 3) := by decide +kernel
theorem dX6_undo_7 : decode cX6_undo 7 = .ok (.ifCond .gt 8, 3) := by decide +kernel
theorem dX6_undo_10 : decode cX6_undo 10 = .ok (.aload_n 0, 1) := by decide +kernel
theorem dX6_undo_11 : decode cX6_undo 11 = .ok (.invokevirtual 130, 3) := by decide +kernel
theorem dX6_undo_14 : decode cX6_undo 14 = .ok (.ireturn, 1) := by decide +kernel
theorem dX6_undo_15 : decode cX6_undo 15 = .ok (.aload_n 0, 1) := by decide +kernel
theorem dX6_undo_16 : decode cX6_undo 16 = .ok (.getfield 12, 3) := by decide +kernel
theorem dX6_undo_19 : decode cX6_undo 19 = .ok (.invokevirtual 154, 3) := by decide +kernel
theorem dX6_undo_22 : decode cX6_undo 22 = .ok (.aload_n 0, 1) := by decide +kernel
theorem dX6_undo_23 : decode cX6_undo 23 = .ok (.getfield 12, 3) := by decide +kernel
theorem dX6_undo_26 : decode cX6_undo 26 = .ok (.invokevirtual 157, 3) := by decide +kernel
theorem dX6_undo_29 : decode cX6_undo 29 = .ok (.ireturn, 1) := by decide +kernel
theorem dX6_of_0 : decode cX6_of 0 = .ok (.aload_n 0, 1) := by decide +kernel
theorem dX6_of_1 : decode cX6_of 1 = .ok (.iload_n 1, 1) := by decide +kernel
theorem dX6_of_2 : decode cX6_of 2 = .ok (.invokevirtual 151, 3) := by decide +kernel
theorem dX6_of_5 : decode cX6_of 5 = .ok (.ifCond .ne 10, 3) := by decide +kernel
theorem dX6_of_8 : decode cX6_of 8 = .ok (.aload_n 0, 1) := by decide +kernel
theorem dX6_of_9 : decode cX6_of 9 = .ok (.bipush (-10), 2) := by decide +kernel
theorem dX6_of_11 : decode cX6_of 11 = .ok (.invokevirtual 71, 3) := by decide +kernel
theorem dX6_of_14 : decode cX6_of 14 = .ok (.ireturn, 1) := by decide +kernel
theorem dX6_of_15 : decode cX6_of 15 = .ok (.iload_n 2, 1) := by decide +kernel
theorem dX6_of_16 : decode cX6_of 16 = .ok (.tableswitch 86 0 4 #[36, 46, 56, 66, 76], 36) := by decide +kernel
theorem dX6_of_52 : decode cX6_of 52 = .ok (.aload_n 0, 1) := by decide +kernel
theorem dX6_of_53 : decode cX6_of 53 = .ok (.getfield 12, 3) := by decide +kernel
theorem dX6_of_56 : decode cX6_of 56 = .ok (.getfield 160, 3) := by decide +kernel
theorem dX6_of_59 : decode cX6_of 59 = .ok (.iload_n 1, 1) := by decide +kernel
theorem dX6_of_60 : decode cX6_of 60 = .ok (.iaload, 1) := by decide +kernel
theorem dX6_of_61 : decode cX6_of 61 = .ok (.ireturn, 1) := by decide +kernel
theorem dX6_of_62 : decode cX6_of 62 = .ok (.aload_n 0, 1) := by decide +kernel
theorem dX6_of_63 : decode cX6_of 63 = .ok (.getfield 12, 3) := by decide +kernel
theorem dX6_of_66 : decode cX6_of 66 = .ok (.getfield 142, 3) := by decide +kernel
theorem dX6_of_69 : decode cX6_of 69 = .ok (.iload_n 1, 1) := by decide +kernel
theorem dX6_of_70 : decode cX6_of 70 = .ok (.iaload, 1) := by decide +kernel
theorem dX6_of_71 : decode cX6_of 71 = .ok (.ireturn, 1) := by decide +kernel
theorem dX6_of_72 : decode cX6_of 72 = .ok (.aload_n 0, 1) := by decide +kernel
theorem dX6_of_73 : decode cX6_of 73 = .ok (.getfield 12, 3) := by decide +kernel
theorem dX6_of_76 : decode cX6_of 76 = .ok (.getfield 145, 3) := by decide +kernel
theorem dX6_of_79 : decode cX6_of 79 = .ok (.iload_n 1, 1) := by decide +kernel
theorem dX6_of_80 : decode cX6_of 80 = .ok (.iaload, 1) := by decide +kernel
theorem dX6_of_81 : decode cX6_of 81 = .ok (.ireturn, 1) := by decide +kernel
theorem dX6_of_82 : decode cX6_of 82 = .ok (.aload_n 0, 1) := by decide +kernel
theorem dX6_of_83 : decode cX6_of 83 = .ok (.getfield 12, 3) := by decide +kernel
theorem dX6_of_86 : decode cX6_of 86 = .ok (.getfield 148, 3) := by decide +kernel
theorem dX6_of_89 : decode cX6_of 89 = .ok (.iload_n 1, 1) := by decide +kernel
theorem dX6_of_90 : decode cX6_of 90 = .ok (.iaload, 1) := by decide +kernel
theorem dX6_of_91 : decode cX6_of 91 = .ok (.ireturn, 1) := by decide +kernel
theorem dX6_of_92 : decode cX6_of 92 = .ok (.aload_n 0, 1) := by decide +kernel
theorem dX6_of_93 : decode cX6_of 93 = .ok (.getfield 12, 3) := by decide +kernel
theorem dX6_of_96 : decode cX6_of 96 = .ok (.getfield 163, 3) := by decide +kernel
theorem dX6_of_99 : decode cX6_of 99 = .ok (.iload_n 1, 1) := by decide +kernel
theorem dX6_of_100 : decode cX6_of 100 = .ok (.iaload, 1) := by decide +kernel
theorem dX6_of_101 : decode cX6_of 101 = .ok (.ireturn, 1) := by decide +kernel
theorem dX6_of_102 : decode cX6_of 102 = .ok (.aload_n 0, 1) := by decide +kernel
theorem dX6_of_103 : decode cX6_of 103 = .ok (.bipush (-10), 2) := by decide +kernel
theorem dX6_of_105 : decode cX6_of 105 = .ok (.invokevirtual 71, 3) := by decide +kernel
theorem dX6_of_108 : decode cX6_of 108 = .ok (.ireturn, 1) := by decide +kernel
theorem dX6_yard_0 : decode cX6_yard 0 = .ok (.iload_n 1, 1) := by decide +kernel
theorem dX6_yard_1 : decode cX6_yard 1 = .ok (.invokestatic 91, 3) := by decide +kernel
theorem dX6_yard_4 : decode cX6_yard 4 = .ok (.ifCond .ne 10, 3) := by decide +kernel
theorem dX6_yard_7 : decode cX6_yard 7 = .ok (.aload_n 0, 1) := by decide +kernel
theorem dX6_yard_8 : decode cX6_yard 8 = .ok (.bipush (-10), 2) := by decide +kernel
theorem dX6_yard_10 : decode cX6_yard 10 = .ok (.invokevirtual 71, 3) := by decide +kernel
theorem dX6_yard_13 : decode cX6_yard 13 = .ok (.ireturn, 1) := by decide +kernel
theorem dX6_yard_14 : decode cX6_yard 14 = .ok (.iload_n 2, 1) := by decide +kernel
theorem dX6_yard_15 : decode cX6_yard 15 = .ok (.tableswitch 53 0 2 #[25, 35, 44], 25) := by decide +kernel
theorem dX6_yard_40 : decode cX6_yard 40 = .ok (.aload_n 0, 1) := by decide +kernel
theorem dX6_yard_41 : decode cX6_yard 41 = .ok (.getfield 12, 3) := by decide +kernel
theorem dX6_yard_44 : decode cX6_yard 44 = .ok (.getfield 98, 3) := by decide +kernel
theorem dX6_yard_47 : decode cX6_yard 47 = .ok (.iload_n 1, 1) := by decide +kernel
theorem dX6_yard_48 : decode cX6_yard 48 = .ok (.iaload, 1) := by decide +kernel
theorem dX6_yard_49 : decode cX6_yard 49 = .ok (.ireturn, 1) := by decide +kernel
theorem dX6_yard_50 : decode cX6_yard 50 = .ok (.aload_n 0, 1) := by decide +kernel
theorem dX6_yard_51 : decode cX6_yard 51 = .ok (.getfield 12, 3) := by decide +kernel
theorem dX6_yard_54 : decode cX6_yard 54 = .ok (.iload_n 1, 1) := by decide +kernel
theorem dX6_yard_55 : decode cX6_yard 55 = .ok (.invokevirtual 166, 3) := by decide +kernel
theorem dX6_yard_58 : decode cX6_yard 58 = .ok (.ireturn, 1) := by decide +kernel
theorem dX6_yard_59 : decode cX6_yard 59 = .ok (.aload_n 0, 1) := by decide +kernel
theorem dX6_yard_60 : decode cX6_yard 60 = .ok (.getfield 12, 3) := by decide +kernel
theorem dX6_yard_63 : decode cX6_yard 63 = .ok (.iload_n 1, 1) := by decide +kernel
theorem dX6_yard_64 : decode cX6_yard 64 = .ok (.invokevirtual 127, 3) := by decide +kernel
theorem dX6_yard_67 : decode cX6_yard 67 = .ok (.ireturn, 1) := by decide +kernel
theorem dX6_yard_68 : decode cX6_yard 68 = .ok (.aload_n 0, 1) := by decide +kernel
theorem dX6_yard_69 : decode cX6_yard 69 = .ok (.bipush (-10), 2) := by decide +kernel
theorem dX6_yard_71 : decode cX6_yard 71 = .ok (.invokevirtual 71, 3) := by decide +kernel
theorem dX6_yard_74 : decode cX6_yard 74 = .ok (.ireturn, 1) := by decide +kernel
theorem dX6_sees_0 : decode cX6_sees 0 = .ok (.aload_n 0, 1) := by decide +kernel
theorem dX6_sees_1 : decode cX6_sees 1 = .ok (.iload_n 1, 1) := by decide +kernel
theorem dX6_sees_2 : decode cX6_sees 2 = .ok (.invokevirtual 151, 3) := by decide +kernel
theorem dX6_sees_5 : decode cX6_sees 5 = .ok (.ifCond .eq 15, 3) := by decide +kernel
theorem dX6_sees_8 : decode cX6_sees 8 = .ok (.iload_n 2, 1) := by decide +kernel
theorem dX6_sees_9 : decode cX6_sees 9 = .ok (.iconst (-1), 1) := by decide +kernel
theorem dX6_sees_10 : decode cX6_sees 10 = .ok (.if_icmp .eq 17, 3) := by decide +kernel
theorem dX6_sees_13 : decode cX6_sees 13 = .ok (.iload_n 2, 1) := by decide +kernel
theorem dX6_sees_14 : decode cX6_sees 14 = .ok (.invokestatic 91, 3) := by decide +kernel
theorem dX6_sees_17 : decode cX6_sees 17 = .ok (.ifCond .ne 10, 3) := by decide +kernel
theorem dX6_sees_20 : decode cX6_sees 20 = .ok (.aload_n 0, 1) := by decide +kernel
theorem dX6_sees_21 : decode cX6_sees 21 = .ok (.bipush (-2), 2) := by decide +kernel
theorem dX6_sees_23 : decode cX6_sees 23 = .ok (.invokevirtual 71, 3) := by decide +kernel
theorem dX6_sees_26 : decode cX6_sees 26 = .ok (.ireturn, 1) := by decide +kernel
theorem dX6_sees_27 : decode cX6_sees 27 = .ok (.iload_n 2, 1) := by decide +kernel
theorem dX6_sees_28 : decode cX6_sees 28 = .ok (.iconst (-1), 1) := by decide +kernel
theorem dX6_sees_29 : decode cX6_sees 29 = .ok (.if_icmp .ne 12, 3) := by decide +kernel
theorem dX6_sees_32 : decode cX6_sees 32 = .ok (.aload_n 0, 1) := by decide +kernel
theorem dX6_sees_33 : decode cX6_sees 33 = .ok (.getfield 12, 3) := by decide +kernel
theorem dX6_sees_36 : decode cX6_sees 36 = .ok (.iload_n 1, 1) := by decide +kernel
theorem dX6_sees_37 : decode cX6_sees 37 = .ok (.invokevirtual 169, 3) := by decide +kernel
theorem dX6_sees_40 : decode cX6_sees 40 = .ok (.ireturn, 1) := by decide +kernel
theorem dX6_sees_41 : decode cX6_sees 41 = .ok (.aload_n 0, 1) := by decide +kernel
theorem dX6_sees_42 : decode cX6_sees 42 = .ok (.getfield 12, 3) := by decide +kernel
theorem dX6_sees_45 : decode cX6_sees 45 = .ok (.iload_n 1, 1) := by decide +kernel
theorem dX6_sees_46 : decode cX6_sees 46 = .ok (.iload_n 2, 1) := by decide +kernel
theorem dX6_sees_47 : decode cX6_sees 47 = .ok (.invokevirtual 172, 3) := by decide +kernel
theorem dX6_sees_50 : decode cX6_sees 50 = .ok (.ifCond .eq 15, 3) := by decide +kernel
theorem dX6_sees_53 : decode cX6_sees 53 = .ok (.aload_n 0, 1) := by decide +kernel
theorem dX6_sees_54 : decode cX6_sees 54 = .ok (.getfield 12, 3) := by decide +kernel
theorem dX6_sees_57 : decode cX6_sees 57 = .ok (.iload_n 1, 1) := by decide +kernel
theorem dX6_sees_58 : decode cX6_sees 58 = .ok (.iload_n 2, 1) := by decide +kernel
theorem dX6_sees_59 : decode cX6_sees 59 = .ok (.invokevirtual 175, 3) := by decide +kernel
theorem dX6_sees_62 : decode cX6_sees 62 = .ok (.goto 7, 3) := by decide +kernel
theorem dX6_sees_65 : decode cX6_sees 65 = .ok (.aload_n 0, 1) := by decide +kernel
theorem dX6_sees_66 : decode cX6_sees 66 = .ok (.invokevirtual 130, 3) := by decide +kernel
theorem dX6_sees_69 : decode cX6_sees 69 = .ok (.ireturn, 1) := by decide +kernel
theorem dX6_gives_0 : decode cX6_gives 0 = .ok (.aload_n 0, 1) := by decide +kernel
theorem dX6_gives_1 : decode cX6_gives 1 = .ok (.iload_n 1, 1) := by decide +kernel
theorem dX6_gives_2 : decode cX6_gives 2 = .ok (.invokevirtual 151, 3) := by decide +kernel
theorem dX6_gives_5 : decode cX6_gives 5 = .ok (.ifCond .eq 15, 3) := by decide +kernel
theorem dX6_gives_8 : decode cX6_gives 8 = .ok (.iload_n 2, 1) := by decide +kernel
theorem dX6_gives_9 : decode cX6_gives 9 = .ok (.iconst (-1), 1) := by decide +kernel
theorem dX6_gives_10 : decode cX6_gives 10 = .ok (.if_icmp .eq 17, 3) := by decide +kernel
theorem dX6_gives_13 : decode cX6_gives 13 = .ok (.iload_n 2, 1) := by decide +kernel
theorem dX6_gives_14 : decode cX6_gives 14 = .ok (.invokestatic 91, 3) := by decide +kernel
theorem dX6_gives_17 : decode cX6_gives 17 = .ok (.ifCond .ne 10, 3) := by decide +kernel
theorem dX6_gives_20 : decode cX6_gives 20 = .ok (.aload_n 0, 1) := by decide +kernel
theorem dX6_gives_21 : decode cX6_gives 21 = .ok (.bipush (-2), 2) := by decide +kernel
theorem dX6_gives_23 : decode cX6_gives 23 = .ok (.invokevirtual 71, 3) := by decide +kernel
theorem dX6_gives_26 : decode cX6_gives 26 = .ok (.ireturn, 1) := by decide +kernel
theorem dX6_gives_27 : decode cX6_gives 27 = .ok (.iload_n 2, 1) := by decide +kernel
theorem dX6_gives_28 : decode cX6_gives 28 = .ok (.iconst (-1), 1) := by decide +kernel
theorem dX6_gives_29 : decode cX6_gives 29 = .ok (.if_icmp .ne 15, 3) := by decide +kernel
theorem dX6_gives_32 : decode cX6_gives 32 = .ok (.aload_n 0, 1) := by decide +kernel
theorem dX6_gives_33 : decode cX6_gives 33 = .ok (.getfield 12, 3) := by decide +kernel
theorem dX6_gives_36 : decode cX6_gives 36 = .ok (.getfield 148, 3) := by decide +kernel
theorem dX6_gives_39 : decode cX6_gives 39 = .ok (.iload_n 1, 1) := by decide +kernel
theorem dX6_gives_40 : decode cX6_gives 40 = .ok (.iaload, 1) := by decide +kernel
theorem dX6_gives_41 : decode cX6_gives 41 = .ok (.goto 4, 3) := by decide +kernel
theorem dX6_gives_44 : decode cX6_gives 44 = .ok (.iload_n 2, 1) := by decide +kernel
theorem dX6_gives_45 : decode cX6_gives 45 = .ok (.istore_n 3, 1) := by decide +kernel
theorem dX6_gives_46 : decode cX6_gives 46 = .ok (.iload_n 3, 1) := by decide +kernel
theorem dX6_gives_47 : decode cX6_gives 47 = .ok (.iconst (-1), 1) := by decide +kernel
theorem dX6_gives_48 : decode cX6_gives 48 = .ok (.if_icmp .ne 5, 3) := by decide +kernel
theorem dX6_gives_51 : decode cX6_gives 51 = .ok (.iconst 0, 1) := by decide +kernel
theorem dX6_gives_52 : decode cX6_gives 52 = .ok (.ireturn, 1) := by decide +kernel
theorem dX6_gives_53 : decode cX6_gives 53 = .ok (.aload_n 0, 1) := by decide +kernel
theorem dX6_gives_54 : decode cX6_gives 54 = .ok (.getfield 12, 3) := by decide +kernel
theorem dX6_gives_57 : decode cX6_gives 57 = .ok (.iload_n 1, 1) := by decide +kernel
theorem dX6_gives_58 : decode cX6_gives 58 = .ok (.iload_n 3, 1) := by decide +kernel
theorem dX6_gives_59 : decode cX6_gives 59 = .ok (.invokevirtual 172, 3) := by decide +kernel
theorem dX6_gives_62 : decode cX6_gives 62 = .ok (.ifCond .eq 15, 3) := by decide +kernel
theorem dX6_gives_65 : decode cX6_gives 65 = .ok (.aload_n 0, 1) := by decide +kernel
theorem dX6_gives_66 : decode cX6_gives 66 = .ok (.getfield 12, 3) := by decide +kernel
theorem dX6_gives_69 : decode cX6_gives 69 = .ok (.iload_n 1, 1) := by decide +kernel
theorem dX6_gives_70 : decode cX6_gives 70 = .ok (.iload_n 3, 1) := by decide +kernel
theorem dX6_gives_71 : decode cX6_gives 71 = .ok (.invokevirtual 178, 3) := by decide +kernel
theorem dX6_gives_74 : decode cX6_gives 74 = .ok (.goto 7, 3) := by decide +kernel
theorem dX6_gives_77 : decode cX6_gives 77 = .ok (.aload_n 0, 1) := by decide +kernel
theorem dX6_gives_78 : decode cX6_gives 78 = .ok (.invokevirtual 130, 3) := by decide +kernel
theorem dX6_gives_81 : decode cX6_gives 81 = .ok (.ireturn, 1) := by decide +kernel
theorem dX6_auction_0 : decode cX6_auction 0 = .ok (.iload_n 1, 1) := by decide +kernel
theorem dX6_auction_1 : decode cX6_auction 1 = .ok (.invokestatic 91, 3) := by decide +kernel
theorem dX6_auction_4 : decode cX6_auction 4 = .ok (.ifCond .eq 11, 3) := by decide +kernel
theorem dX6_auction_7 : decode cX6_auction 7 = .ok (.iload_n 2, 1) := by decide +kernel
theorem dX6_auction_8 : decode cX6_auction 8 = .ok (.iconst 1, 1) := by decide +kernel
theorem dX6_auction_9 : decode cX6_auction 9 = .ok (.invokestatic 95, 3) := by decide +kernel
theorem dX6_auction_12 : decode cX6_auction 12 = .ok (.ifCond .ne 10, 3) := by decide +kernel
theorem dX6_auction_15 : decode cX6_auction 15 = .ok (.aload_n 0, 1) := by decide +kernel
theorem dX6_auction_16 : decode cX6_auction 16 = .ok (.bipush (-2), 2) := by decide +kernel
theorem dX6_auction_18 : decode cX6_auction 18 = .ok (.invokevirtual 71, 3) := by decide +kernel
theorem dX6_auction_21 : decode cX6_auction 21 = .ok (.ireturn, 1) := by decide +kernel
theorem dX6_auction_22 : decode cX6_auction 22 = .ok (.aload_n 0, 1) := by decide +kernel
theorem dX6_auction_23 : decode cX6_auction 23 = .ok (.getfield 12, 3) := by decide +kernel
theorem dX6_auction_26 : decode cX6_auction 26 = .ok (.iload_n 1, 1) := by decide +kernel
theorem dX6_auction_27 : decode cX6_auction 27 = .ok (.invokevirtual 127, 3) := by decide +kernel
theorem dX6_auction_30 : decode cX6_auction 30 = .ok (.iconst (-1), 1) := by decide +kernel
theorem dX6_auction_31 : decode cX6_auction 31 = .ok (.if_icmp .eq 8, 3) := by decide +kernel
theorem dX6_auction_34 : decode cX6_auction 34 = .ok (.aload_n 0, 1) := by decide +kernel
theorem dX6_auction_35 : decode cX6_auction 35 = .ok (.invokevirtual 130, 3) := by decide +kernel
theorem dX6_auction_38 : decode cX6_auction 38 = .ok (.ireturn, 1) := by decide +kernel
theorem dX6_auction_39 : decode cX6_auction 39 = .ok (.aload_n 0, 1) := by decide +kernel
theorem dX6_auction_40 : decode cX6_auction 40 = .ok (.getfield 12, 3) := by decide +kernel
theorem dX6_auction_43 : decode cX6_auction 43 = .ok (.iload_n 1, 1) := by decide +kernel
theorem dX6_auction_44 : decode cX6_auction 44 = .ok (.invokevirtual 133, 3) := by decide +kernel
theorem dX6_auction_47 : decode cX6_auction 47 = .ok (.istore_n 3, 1) := by decide +kernel
theorem dX6_auction_48 : decode cX6_auction 48 = .ok (.iload_n 3, 1) := by decide +kernel
theorem dX6_auction_49 : decode cX6_auction 49 = .ok (.iconst (-1), 1) := by decide +kernel
theorem dX6_auction_50 : decode cX6_auction 50 = .ok (.if_icmp .eq 7, 3) := by decide +kernel
theorem dX6_auction_53 : decode cX6_auction 53 = .ok (.iload_n 2, 1) := by decide +kernel
theorem dX6_auction_54 : decode cX6_auction 54 = .ok (.ifCond .ne 7, 3) := by decide +kernel
theorem dX6_auction_57 : decode cX6_auction 57 = .ok (.iload_n 3, 1) := by decide +kernel
theorem dX6_auction_58 : decode cX6_auction 58 = .ok (.goto 12, 3) := by decide +kernel
theorem dX6_auction_61 : decode cX6_auction 61 = .ok (.aload_n 0, 1) := by decide +kernel
theorem dX6_auction_62 : decode cX6_auction 62 = .ok (.getfield 12, 3) := by decide +kernel
theorem dX6_auction_65 : decode cX6_auction 65 = .ok (.iload_n 1, 1) := by decide +kernel
theorem dX6_auction_66 : decode cX6_auction 66 = .ok (.iload_n 3, 1) := by decide +kernel
theorem dX6_auction_67 : decode cX6_auction 67 = .ok (.invokevirtual 136, 3) := by decide +kernel
theorem dX6_auction_70 : decode cX6_auction 70 = .ok (.ireturn, 1) := by decide +kernel
theorem dX6_hurt_0 : decode cX6_hurt 0 = .ok (.aload_n 0, 1) := by decide +kernel
theorem dX6_hurt_1 : decode cX6_hurt 1 = .ok (.iload_n 1, 1) := by decide +kernel
theorem dX6_hurt_2 : decode cX6_hurt 2 = .ok (.invokevirtual 151, 3) := by decide +kernel
theorem dX6_hurt_5 : decode cX6_hurt 5 = .ok (.ifCond .eq 10, 3) := by decide +kernel
theorem dX6_hurt_8 : decode cX6_hurt 8 = .ok (.iload_n 2, 1) := by decide +kernel
theorem dX6_hurt_9 : decode cX6_hurt 9 = .ok (.invokestatic 91, 3) := by decide +kernel
theorem dX6_hurt_12 : decode cX6_hurt 12 = .ok (.ifCond .ne 10, 3) := by decide +kernel
theorem dX6_hurt_15 : decode cX6_hurt 15 = .ok (.aload_n 0, 1) := by decide +kernel
theorem dX6_hurt_16 : decode cX6_hurt 16 = .ok (.bipush (-2), 2) := by decide +kernel
theorem dX6_hurt_18 : decode cX6_hurt 18 = .ok (.invokevirtual 71, 3) := by decide +kernel
theorem dX6_hurt_21 : decode cX6_hurt 21 = .ok (.ireturn, 1) := by decide +kernel
theorem dX6_hurt_22 : decode cX6_hurt 22 = .ok (.aload_n 0, 1) := by decide +kernel
theorem dX6_hurt_23 : decode cX6_hurt 23 = .ok (.getfield 12, 3) := by decide +kernel
theorem dX6_hurt_26 : decode cX6_hurt 26 = .ok (.iload_n 1, 1) := by decide +kernel
theorem dX6_hurt_27 : decode cX6_hurt 27 = .ok (.iload_n 2, 1) := by decide +kernel
theorem dX6_hurt_28 : decode cX6_hurt 28 = .ok (.invokevirtual 172, 3) := by decide +kernel
theorem dX6_hurt_31 : decode cX6_hurt 31 = .ok (.ifCond .eq 15, 3) := by decide +kernel
theorem dX6_hurt_34 : decode cX6_hurt 34 = .ok (.aload_n 0, 1) := by decide +kernel
theorem dX6_hurt_35 : decode cX6_hurt 35 = .ok (.getfield 12, 3) := by decide +kernel
theorem dX6_hurt_38 : decode cX6_hurt 38 = .ok (.iload_n 1, 1) := by decide +kernel
theorem dX6_hurt_39 : decode cX6_hurt 39 = .ok (.iload_n 2, 1) := by decide +kernel
theorem dX6_hurt_40 : decode cX6_hurt 40 = .ok (.invokevirtual 181, 3) := by decide +kernel
theorem dX6_hurt_43 : decode cX6_hurt 43 = .ok (.goto 7, 3) := by decide +kernel
theorem dX6_hurt_46 : decode cX6_hurt 46 = .ok (.aload_n 0, 1) := by decide +kernel
theorem dX6_hurt_47 : decode cX6_hurt 47 = .ok (.invokevirtual 130, 3) := by decide +kernel
theorem dX6_hurt_50 : decode cX6_hurt 50 = .ok (.ireturn, 1) := by decide +kernel
theorem dX6_best_0 : decode cX6_best 0 = .ok (.aload_n 0, 1) := by decide +kernel
theorem dX6_best_1 : decode cX6_best 1 = .ok (.iload_n 1, 1) := by decide +kernel
theorem dX6_best_2 : decode cX6_best 2 = .ok (.invokevirtual 151, 3) := by decide +kernel
theorem dX6_best_5 : decode cX6_best 5 = .ok (.ifCond .eq 11, 3) := by decide +kernel
theorem dX6_best_8 : decode cX6_best 8 = .ok (.iload_n 2, 1) := by decide +kernel
theorem dX6_best_9 : decode cX6_best 9 = .ok (.iconst 1, 1) := by decide +kernel
theorem dX6_best_10 : decode cX6_best 10 = .ok (.invokestatic 95, 3) := by decide +kernel
theorem dX6_best_13 : decode cX6_best 13 = .ok (.ifCond .ne 11, 3) := by decide +kernel
theorem dX6_best_16 : decode cX6_best 16 = .ok (.aload_n 0, 1) := by decide +kernel
theorem dX6_best_17 : decode cX6_best 17 = .ok (.sipush (-10000), 3) := by decide +kernel
theorem dX6_best_20 : decode cX6_best 20 = .ok (.invokevirtual 71, 3) := by decide +kernel
theorem dX6_best_23 : decode cX6_best 23 = .ok (.ireturn, 1) := by decide +kernel
theorem dX6_best_24 : decode cX6_best 24 = .ok (.iconst (-1), 1) := by decide +kernel
theorem dX6_best_25 : decode cX6_best 25 = .ok (.istore_n 3, 1) := by decide +kernel
theorem dX6_best_26 : decode cX6_best 26 = .ok (.sipush (-10000), 3) := by decide +kernel
theorem dX6_best_29 : decode cX6_best 29 = .ok (.istore 4, 2) := by decide +kernel
theorem dX6_best_31 : decode cX6_best 31 = .ok (.iconst 0, 1) := by decide +kernel
theorem dX6_best_32 : decode cX6_best 32 = .ok (.istore 5, 2) := by decide +kernel
theorem dX6_best_34 : decode cX6_best 34 = .ok (.iload 5, 2) := by decide +kernel
theorem dX6_best_36 : decode cX6_best 36 = .ok (.bipush 8, 2) := by decide +kernel
theorem dX6_best_38 : decode cX6_best 38 = .ok (.if_icmp .ge 59, 3) := by decide +kernel
theorem dX6_best_41 : decode cX6_best 41 = .ok (.aload_n 0, 1) := by decide +kernel
theorem dX6_best_42 : decode cX6_best 42 = .ok (.getfield 12, 3) := by decide +kernel
theorem dX6_best_45 : decode cX6_best 45 = .ok (.iload_n 1, 1) := by decide +kernel
theorem dX6_best_46 : decode cX6_best 46 = .ok (.iload 5, 2) := by decide +kernel
theorem dX6_best_48 : decode cX6_best 48 = .ok (.invokevirtual 172, 3) := by decide +kernel
theorem dX6_best_51 : decode cX6_best 51 = .ok (.ifCond .eq 40, 3) := by decide +kernel
theorem dX6_best_54 : decode cX6_best 54 = .ok (.aload_n 0, 1) := by decide +kernel
theorem dX6_best_55 : decode cX6_best 55 = .ok (.getfield 12, 3) := by decide +kernel
theorem dX6_best_58 : decode cX6_best 58 = .ok (.iload_n 1, 1) := by decide +kernel
theorem dX6_best_59 : decode cX6_best 59 = .ok (.iload 5, 2) := by decide +kernel
theorem dX6_best_61 : decode cX6_best 61 = .ok (.invokevirtual 184, 3) := by decide +kernel
theorem dX6_best_64 : decode cX6_best 64 = .ok (.aload_n 0, 1) := by decide +kernel
theorem dX6_best_65 : decode cX6_best 65 = .ok (.getfield 12, 3) := by decide +kernel
theorem dX6_best_68 : decode cX6_best 68 = .ok (.iload_n 1, 1) := by decide +kernel
theorem dX6_best_69 : decode cX6_best 69 = .ok (.iload 5, 2) := by decide +kernel
theorem dX6_best_71 : decode cX6_best 71 = .ok (.invokevirtual 181, 3) := by decide +kernel
theorem dX6_best_74 : decode cX6_best 74 = .ok (.isub, 1) := by decide +kernel
theorem dX6_best_75 : decode cX6_best 75 = .ok (.istore 6, 2) := by decide +kernel
theorem dX6_best_77 : decode cX6_best 77 = .ok (.iload 6, 2) := by decide +kernel
theorem dX6_best_79 : decode cX6_best 79 = .ok (.iload 4, 2) := by decide +kernel
theorem dX6_best_81 : decode cX6_best 81 = .ok (.if_icmp .le 10, 3) := by decide +kernel
theorem dX6_best_84 : decode cX6_best 84 = .ok (.iload 6, 2) := by decide +kernel
theorem dX6_best_86 : decode cX6_best 86 = .ok (.istore 4, 2) := by decide +kernel
theorem dX6_best_88 : decode cX6_best 88 = .ok (.iload 5, 2) := by decide +kernel
theorem dX6_best_90 : decode cX6_best 90 = .ok (.istore_n 3, 1) := by decide +kernel
theorem dX6_best_91 : decode cX6_best 91 = .ok (.iinc 5 1, 3) := by decide +kernel
theorem dX6_best_94 : decode cX6_best 94 = .ok (.goto (-60), 3) := by decide +kernel
theorem dX6_best_97 : decode cX6_best 97 = .ok (.iload_n 2, 1) := by decide +kernel
theorem dX6_best_98 : decode cX6_best 98 = .ok (.ifCond .ne 7, 3) := by decide +kernel
theorem dX6_best_101 : decode cX6_best 101 = .ok (.iload_n 3, 1) := by decide +kernel
theorem dX6_best_102 : decode cX6_best 102 = .ok (.goto 5, 3) := by decide +kernel
theorem dX6_best_105 : decode cX6_best 105 = .ok (.iload 4, 2) := by decide +kernel
theorem dX6_best_107 : decode cX6_best 107 = .ok (.ireturn, 1) := by decide +kernel
theorem dX6_all_0 : decode cX6_all 0 = .ok (.iload_n 1, 1) := by decide +kernel
theorem dX6_all_1 : decode cX6_all 1 = .ok (.iconst (-1), 1) := by decide +kernel
theorem dX6_all_2 : decode cX6_all 2 = .ok (.if_icmp .eq 18, 3) := by decide +kernel
theorem dX6_all_5 : decode cX6_all 5 = .ok (.aload_n 0, 1) := by decide +kernel
theorem dX6_all_6 : decode cX6_all 6 = .ok (.iload_n 1, 1) := by decide +kernel
theorem dX6_all_7 : decode cX6_all 7 = .ok (.invokevirtual 151, 3) := by decide +kernel
theorem dX6_all_10 : decode cX6_all 10 = .ok (.ifCond .ne 10, 3) := by decide +kernel
theorem dX6_all_13 : decode cX6_all 13 = .ok (.aload_n 0, 1) := by decide +kernel
theorem dX6_all_14 : decode cX6_all 14 = .ok (.bipush (-10), 2) := by decide +kernel
theorem dX6_all_16 : decode cX6_all 16 = .ok (.invokevirtual 71, 3) := by decide +kernel
theorem dX6_all_19 : decode cX6_all 19 = .ok (.ireturn, 1) := by decide +kernel
theorem dX6_all_20 : decode cX6_all 20 = .ok (.aload_n 0, 1) := by decide +kernel
theorem dX6_all_21 : decode cX6_all 21 = .ok (.getfield 33, 3) := by decide +kernel
theorem dX6_all_24 : decode cX6_all 24 = .ok (.aload_n 0, 1) := by decide +kernel
theorem dX6_all_25 : decode cX6_all 25 = .ok (.getfield 12, 3) := by decide +kernel
theorem dX6_all_28 : decode cX6_all 28 = .ok (.invokevirtual 187, 3) := by decide +kernel
theorem dX6_all_31 : decode cX6_all 31 = .ok (.iload_n 1, 1) := by decide +kernel
theorem dX6_all_32 : decode cX6_all 32 = .ok (.iconst (-1), 1) := by decide +kernel
theorem dX6_all_33 : decode cX6_all 33 = .ok (.if_icmp .ne 13, 3) := by decide +kernel
theorem dX6_all_36 : decode cX6_all 36 = .ok (.aload_n 0, 1) := by decide +kernel
theorem dX6_all_37 : decode cX6_all 37 = .ok (.getfield 33, 3) := by decide +kernel
theorem dX6_all_40 : decode cX6_all 40 = .ok (.invokevirtual 190, 3) := by decide +kernel
theorem dX6_all_43 : decode cX6_all 43 = .ok (.goto 11, 3) := by decide +kernel
theorem dX6_all_46 : decode cX6_all 46 = .ok (.aload_n 0, 1) := by decide +kernel
theorem dX6_all_47 : decode cX6_all 47 = .ok (.getfield 33, 3) := by decide +kernel
theorem dX6_all_50 : decode cX6_all 50 = .ok (.iload_n 1, 1) := by decide +kernel
theorem dX6_all_51 : decode cX6_all 51 = .ok (.invokevirtual 193, 3) := by decide +kernel
theorem dX6_all_54 : decode cX6_all 54 = .ok (.ireturn, 1) := by decide +kernel
theorem dX6_move_0 : decode cX6_move 0 = .ok (.iload_n 1, 1) := by decide +kernel
theorem dX6_move_1 : decode cX6_move 1 = .ok (.iconst 1, 1) := by decide +kernel
theorem dX6_move_2 : decode cX6_move 2 = .ok (.invokestatic 95, 3) := by decide +kernel
theorem dX6_move_5 : decode cX6_move 5 = .ok (.ifCond .ne 10, 3) := by decide +kernel
theorem dX6_move_8 : decode cX6_move 8 = .ok (.aload_n 0, 1) := by decide +kernel
theorem dX6_move_9 : decode cX6_move 9 = .ok (.bipush (-2), 2) := by decide +kernel
theorem dX6_move_11 : decode cX6_move 11 = .ok (.invokevirtual 71, 3) := by decide +kernel
theorem dX6_move_14 : decode cX6_move 14 = .ok (.ireturn, 1) := by decide +kernel
theorem dX6_move_15 : decode cX6_move 15 = .ok (.iconst (-1), 1) := by decide +kernel
theorem dX6_move_16 : decode cX6_move 16 = .ok (.istore_n 2, 1) := by decide +kernel
theorem dX6_move_17 : decode cX6_move 17 = .ok (.iconst (-1), 1) := by decide +kernel
theorem dX6_move_18 : decode cX6_move 18 = .ok (.istore_n 3, 1) := by decide +kernel
theorem dX6_move_19 : decode cX6_move 19 = .ok (.iconst 0, 1) := by decide +kernel
theorem dX6_move_20 : decode cX6_move 20 = .ok (.istore 4, 2) := by decide +kernel
theorem dX6_move_22 : decode cX6_move 22 = .ok (.iload 4, 2) := by decide +kernel
theorem dX6_move_24 : decode cX6_move 24 = .ok (.aload_n 0, 1) := by decide +kernel
theorem dX6_move_25 : decode cX6_move 25 = .ok (.getfield 12, 3) := by decide +kernel
theorem dX6_move_28 : decode cX6_move 28 = .ok (.getfield 75, 3) := by decide +kernel
theorem dX6_move_31 : decode cX6_move 31 = .ok (.if_icmp .ge 56, 3) := by decide +kernel
theorem dX6_move_34 : decode cX6_move 34 = .ok (.aload_n 0, 1) := by decide +kernel
theorem dX6_move_35 : decode cX6_move 35 = .ok (.getfield 12, 3) := by decide +kernel
theorem dX6_move_38 : decode cX6_move 38 = .ok (.getfield 148, 3) := by decide +kernel
theorem dX6_move_41 : decode cX6_move 41 = .ok (.iload 4, 2) := by decide +kernel
theorem dX6_move_43 : decode cX6_move 43 = .ok (.iaload, 1) := by decide +kernel
theorem dX6_move_44 : decode cX6_move 44 = .ok (.iconst (-1), 1) := by decide +kernel
theorem dX6_move_45 : decode cX6_move 45 = .ok (.if_icmp .eq 36, 3) := by decide +kernel
theorem dX6_move_48 : decode cX6_move 48 = .ok (.aload_n 0, 1) := by decide +kernel
theorem dX6_move_49 : decode cX6_move 49 = .ok (.getfield 12, 3) := by decide +kernel
theorem dX6_move_52 : decode cX6_move 52 = .ok (.iload 4, 2) := by decide +kernel
theorem dX6_move_54 : decode cX6_move 54 = .ok (.aload_n 0, 1) := by decide +kernel
theorem dX6_move_55 : decode cX6_move 55 = .ok (.getfield 12, 3) := by decide +kernel
theorem dX6_move_58 : decode cX6_move 58 = .ok (.getfield 148, 3) := by decide +kernel
theorem dX6_move_61 : decode cX6_move 61 = .ok (.iload 4, 2) := by decide +kernel
theorem dX6_move_63 : decode cX6_move 63 = .ok (.iaload, 1) := by decide +kernel
theorem dX6_move_64 : decode cX6_move 64 = .ok (.invokevirtual 181, 3) := by decide +kernel
theorem dX6_move_67 : decode cX6_move 67 = .ok (.istore 5, 2) := by decide +kernel
theorem dX6_move_69 : decode cX6_move 69 = .ok (.iload 5, 2) := by decide +kernel
theorem dX6_move_71 : decode cX6_move 71 = .ok (.iload_n 3, 1) := by decide +kernel
theorem dX6_move_72 : decode cX6_move 72 = .ok (.if_icmp .le 9, 3) := by decide +kernel
theorem dX6_move_75 : decode cX6_move 75 = .ok (.iload 5, 2) := by decide +kernel
theorem dX6_move_77 : decode cX6_move 77 = .ok (.istore_n 3, 1) := by decide +kernel
theorem dX6_move_78 : decode cX6_move 78 = .ok (.iload 4, 2) := by decide +kernel
theorem dX6_move_80 : decode cX6_move 80 = .ok (.istore_n 2, 1) := by decide +kernel
theorem dX6_move_81 : decode cX6_move 81 = .ok (.iinc 4 1, 3) := by decide +kernel
theorem dX6_move_84 : decode cX6_move 84 = .ok (.goto (-62), 3) := by decide +kernel
theorem dX6_move_87 : decode cX6_move 87 = .ok (.iload_n 1, 1) := by decide +kernel
theorem dX6_move_88 : decode cX6_move 88 = .ok (.ifCond .ne 7, 3) := by decide +kernel
theorem dX6_move_91 : decode cX6_move 91 = .ok (.iload_n 2, 1) := by decide +kernel
theorem dX6_move_92 : decode cX6_move 92 = .ok (.goto 4, 3) := by decide +kernel
theorem dX6_move_95 : decode cX6_move 95 = .ok (.iload_n 3, 1) := by decide +kernel
theorem dX6_move_96 : decode cX6_move 96 = .ok (.ireturn, 1) := by decide +kernel
theorem dX6_note_0 : decode cX6_note 0 = .ok (.aload_n 0, 1) := by decide +kernel
theorem dX6_note_1 : decode cX6_note 1 = .ok (.iload_n 1, 1) := by decide +kernel
theorem dX6_note_2 : decode cX6_note 2 = .ok (.invokevirtual 151, 3) := by decide +kernel
theorem dX6_note_5 : decode cX6_note 5 = .ok (.ifCond .eq 33, 3) := by decide +kernel
theorem dX6_note_8 : decode cX6_note 8 = .ok (.iload_n 2, 1) := by decide +kernel
theorem dX6_note_9 : decode cX6_note 9 = .ok (.sipush 240, 3) := by decide +kernel
theorem dX6_note_12 : decode cX6_note 12 = .ok (.invokestatic 95, 3) := by decide +kernel
theorem dX6_note_15 : decode cX6_note 15 = .ok (.ifCond .eq 23, 3) := by decide +kernel
theorem dX6_note_18 : decode cX6_note 18 = .ok (.iload_n 3, 1) := by decide +kernel
theorem dX6_note_19 : decode cX6_note 19 = .ok (.bipush 9, 2) := by decide +kernel
theorem dX6_note_21 : decode cX6_note 21 = .ok (.invokestatic 95, 3) := by decide +kernel
theorem dX6_note_24 : decode cX6_note 24 = .ok (.ifCond .eq 14, 3) := by decide +kernel
theorem dX6_note_27 : decode cX6_note 27 = .ok (.iload 4, 2) := by decide +kernel
theorem dX6_note_29 : decode cX6_note 29 = .ok (.sipush 500, 3) := by decide +kernel
theorem dX6_note_32 : decode cX6_note 32 = .ok (.invokestatic 95, 3) := by decide +kernel
theorem dX6_note_35 : decode cX6_note 35 = .ok (.ifCond .ne 10, 3) := by decide +kernel
theorem dX6_note_38 : decode cX6_note 38 = .ok (.aload_n 0, 1) := by decide +kernel
theorem dX6_note_39 : decode cX6_note 39 = .ok (.bipush (-2), 2) := by decide +kernel
theorem dX6_note_41 : decode cX6_note 41 = .ok (.invokevirtual 71, 3) := by decide +kernel
theorem dX6_note_44 : decode cX6_note 44 = .ok (.ireturn, 1) := by decide +kernel
theorem dX6_note_45 : decode cX6_note 45 = .ok (.aload_n 0, 1) := by decide +kernel
theorem dX6_note_46 : decode cX6_note 46 = .ok (.getfield 12, 3) := by decide +kernel
theorem dX6_note_49 : decode cX6_note 49 = .ok (.getfield 196, 3) := by decide +kernel
theorem dX6_note_52 : decode cX6_note 52 = .ok (.bipush 6, 2) := by decide +kernel
theorem dX6_note_54 : decode cX6_note 54 = .ok (.if_icmp .lt 8, 3) := by decide +kernel
theorem dX6_note_57 : decode cX6_note 57 = .ok (.aload_n 0, 1) := by decide +kernel
theorem dX6_note_58 : decode cX6_note 58 = .ok (.invokevirtual 104, 3) := by decide +kernel
theorem dX6_note_61 : decode cX6_note 61 = .ok (.ireturn, 1) := by decide +kernel
theorem dX6_note_62 : decode cX6_note 62 = .ok (.aload_n 0, 1) := by decide +kernel
theorem dX6_note_63 : decode cX6_note 63 = .ok (.getfield 12, 3) := by decide +kernel
theorem dX6_note_66 : decode cX6_note 66 = .ok (.getfield 196, 3) := by decide +kernel
theorem dX6_note_69 : decode cX6_note 69 = .ok (.iconst 4, 1) := by decide +kernel
theorem dX6_note_70 : decode cX6_note 70 = .ok (.imul, 1) := by decide +kernel
theorem dX6_note_71 : decode cX6_note 71 = .ok (.istore 5, 2) := by decide +kernel
theorem dX6_note_73 : decode cX6_note 73 = .ok (.aload_n 0, 1) := by decide +kernel
theorem dX6_note_74 : decode cX6_note 74 = .ok (.getfield 12, 3) := by decide +kernel
theorem dX6_note_77 : decode cX6_note 77 = .ok (.getfield 199, 3) := by decide +kernel
theorem dX6_note_80 : decode cX6_note 80 = .ok (.iload 5, 2) := by decide +kernel
theorem dX6_note_82 : decode cX6_note 82 = .ok (.iload_n 1, 1) := by decide +kernel
theorem dX6_note_83 : decode cX6_note 83 = .ok (.iastore, 1) := by decide +kernel
theorem dX6_note_84 : decode cX6_note 84 = .ok (.aload_n 0, 1) := by decide +kernel
theorem dX6_note_85 : decode cX6_note 85 = .ok (.getfield 12, 3) := by decide +kernel
theorem dX6_note_88 : decode cX6_note 88 = .ok (.getfield 199, 3) := by decide +kernel
theorem dX6_note_91 : decode cX6_note 91 = .ok (.iload 5, 2) := by decide +kernel
theorem dX6_note_93 : decode cX6_note 93 = .ok (.iconst 1, 1) := by decide +kernel
theorem dX6_note_94 : decode cX6_note 94 = .ok (.iadd, 1) := by decide +kernel
theorem dX6_note_95 : decode cX6_note 95 = .ok (.iload_n 2, 1) := by decide +kernel
theorem dX6_note_96 : decode cX6_note 96 = .ok (.iastore, 1) := by decide +kernel
theorem dX6_note_97 : decode cX6_note 97 = .ok (.aload_n 0, 1) := by decide +kernel
theorem dX6_note_98 : decode cX6_note 98 = .ok (.getfield 12, 3) := by decide +kernel
theorem dX6_note_101 : decode cX6_note 101 = .ok (.getfield 199, 3) := by decide +kernel
theorem dX6_note_104 : decode cX6_note 104 = .ok (.iload 5, 2) := by decide +kernel
theorem dX6_note_106 : decode cX6_note 106 = .ok (.iconst 2, 1) := by decide +kernel
theorem dX6_note_107 : decode cX6_note 107 = .ok (.iadd, 1) := by decide +kernel
theorem dX6_note_108 : decode cX6_note 108 = .ok (.iload_n 3, 1) := by decide +kernel
theorem dX6_note_109 : decode cX6_note 109 = .ok (.iastore, 1) := by decide +kernel
theorem dX6_note_110 : decode cX6_note 110 = .ok (.aload_n 0, 1) := by decide +kernel
theorem dX6_note_111 : decode cX6_note 111 = .ok (.getfield 12, 3) := by decide +kernel
theorem dX6_note_114 : decode cX6_note 114 = .ok (.getfield 199, 3) := by decide +kernel
theorem dX6_note_117 : decode cX6_note 117 = .ok (.iload 5, 2) := by decide +kernel
theorem dX6_note_119 : decode cX6_note 119 = .ok (.iconst 3, 1) := by decide +kernel
theorem dX6_note_120 : decode cX6_note 120 = .ok (.iadd, 1) := by decide +kernel
theorem dX6_note_121 : decode cX6_note 121 = .ok (.iload 4, 2) := by decide +kernel
theorem dX6_note_123 : decode cX6_note 123 = .ok (.iastore, 1) := by decide +kernel
theorem dX6_note_124 : decode cX6_note 124 = .ok (.aload_n 0, 1) := by decide +kernel
theorem dX6_note_125 : decode cX6_note 125 = .ok (.getfield 12, 3) := by decide +kernel
theorem dX6_note_128 : decode cX6_note 128 = .ok (.dup, 1) := by decide +kernel
theorem dX6_note_129 : decode cX6_note 129 = .ok (.getfield 196, 3) := by decide +kernel
theorem dX6_note_132 : decode cX6_note 132 = .ok (.iconst 1, 1) := by decide +kernel
theorem dX6_note_133 : decode cX6_note 133 = .ok (.iadd, 1) := by decide +kernel
theorem dX6_note_134 : decode cX6_note 134 = .ok (.putfield 196, 3) := by decide +kernel
theorem dX6_note_137 : decode cX6_note 137 = .ok (.aload_n 0, 1) := by decide +kernel
theorem dX6_note_138 : decode cX6_note 138 = .ok (.getfield 12, 3) := by decide +kernel
theorem dX6_note_141 : decode cX6_note 141 = .ok (.getfield 196, 3) := by decide +kernel
theorem dX6_note_144 : decode cX6_note 144 = .ok (.ireturn, 1) := by decide +kernel
theorem dX6_forget_0 : decode cX6_forget 0 = .ok (.aload_n 0, 1) := by decide +kernel
theorem dX6_forget_1 : decode cX6_forget 1 = .ok (.getfield 12, 3) := by decide +kernel
theorem dX6_forget_4 : decode cX6_forget 4 = .ok (.getfield 196, 3) := by decide +kernel
theorem dX6_forget_7 : decode cX6_forget 7 = .ok (.istore_n 1, 1) := by decide +kernel
theorem dX6_forget_8 : decode cX6_forget 8 = .ok (.aload_n 0, 1) := by decide +kernel
theorem dX6_forget_9 : decode cX6_forget 9 = .ok (.getfield 12, 3) := by decide +kernel
theorem dX6_forget_12 : decode cX6_forget 12 = .ok (.iconst 0, 1) := by decide +kernel
theorem dX6_forget_13 : decode cX6_forget 13 = .ok (.putfield 196, 3) := by decide +kernel
theorem dX6_forget_16 : decode cX6_forget 16 = .ok (.iload_n 1, 1) := by decide +kernel
theorem dX6_forget_17 : decode cX6_forget 17 = .ok (.ireturn, 1) := by decide +kernel
theorem dX6_is_0 : decode cX6_is 0 = .ok (.aload_n 0, 1) := by decide +kernel
theorem dX6_is_1 : decode cX6_is 1 = .ok (.iload_n 1, 1) := by decide +kernel
theorem dX6_is_2 : decode cX6_is 2 = .ok (.invokevirtual 151, 3) := by decide +kernel
theorem dX6_is_5 : decode cX6_is 5 = .ok (.ifCond .eq 18, 3) := by decide +kernel
theorem dX6_is_8 : decode cX6_is 8 = .ok (.aload_n 0, 1) := by decide +kernel
theorem dX6_is_9 : decode cX6_is 9 = .ok (.getfield 47, 3) := by decide +kernel
theorem dX6_is_12 : decode cX6_is 12 = .ok (.aload_n 0, 1) := by decide +kernel
theorem dX6_is_13 : decode cX6_is 13 = .ok (.getfield 12, 3) := by decide +kernel
theorem dX6_is_16 : decode cX6_is 16 = .ok (.iload_n 1, 1) := by decide +kernel
theorem dX6_is_17 : decode cX6_is 17 = .ok (.invokevirtual 202, 3) := by decide +kernel
theorem dX6_is_20 : decode cX6_is 20 = .ok (.goto 9, 3) := by decide +kernel
theorem dX6_is_23 : decode cX6_is 23 = .ok (.aload_n 0, 1) := by decide +kernel
theorem dX6_is_24 : decode cX6_is 24 = .ok (.bipush (-2), 2) := by decide +kernel
theorem dX6_is_26 : decode cX6_is 26 = .ok (.invokevirtual 71, 3) := by decide +kernel
theorem dX6_is_29 : decode cX6_is 29 = .ok (.ireturn, 1) := by decide +kernel
theorem dX6_offer_0 : decode cX6_offer 0 = .ok (.aload_n 0, 1) := by decide +kernel
theorem dX6_offer_1 : decode cX6_offer 1 = .ok (.iload_n 1, 1) := by decide +kernel
theorem dX6_offer_2 : decode cX6_offer 2 = .ok (.invokevirtual 151, 3) := by decide +kernel
theorem dX6_offer_5 : decode cX6_offer 5 = .ok (.ifCond .eq 18, 3) := by decide +kernel
theorem dX6_offer_8 : decode cX6_offer 8 = .ok (.aload_n 0, 1) := by decide +kernel
theorem dX6_offer_9 : decode cX6_offer 9 = .ok (.getfield 47, 3) := by decide +kernel
theorem dX6_offer_12 : decode cX6_offer 12 = .ok (.aload_n 0, 1) := by decide +kernel
theorem dX6_offer_13 : decode cX6_offer 13 = .ok (.getfield 12, 3) := by decide +kernel
theorem dX6_offer_16 : decode cX6_offer 16 = .ok (.iload_n 1, 1) := by decide +kernel
theorem dX6_offer_17 : decode cX6_offer 17 = .ok (.invokevirtual 206, 3) := by decide +kernel
theorem dX6_offer_20 : decode cX6_offer 20 = .ok (.goto 9, 3) := by decide +kernel
theorem dX6_offer_23 : decode cX6_offer 23 = .ok (.aload_n 0, 1) := by decide +kernel
theorem dX6_offer_24 : decode cX6_offer 24 = .ok (.bipush (-2), 2) := by decide +kernel
theorem dX6_offer_26 : decode cX6_offer 26 = .ok (.invokevirtual 71, 3) := by decide +kernel
theorem dX6_offer_29 : decode cX6_offer 29 = .ok (.ireturn, 1) := by decide +kernel
theorem dX6_two_0 : decode cX6_two 0 = .ok (.aload_n 0, 1) := by decide +kernel
theorem dX6_two_1 : decode cX6_two 1 = .ok (.iload_n 1, 1) := by decide +kernel
theorem dX6_two_2 : decode cX6_two 2 = .ok (.invokevirtual 151, 3) := by decide +kernel
theorem dX6_two_5 : decode cX6_two 5 = .ok (.ifCond .eq 21, 3) := by decide +kernel
theorem dX6_two_8 : decode cX6_two 8 = .ok (.aload_n 0, 1) := by decide +kernel
theorem dX6_two_9 : decode cX6_two 9 = .ok (.iload_n 2, 1) := by decide +kernel
theorem dX6_two_10 : decode cX6_two 10 = .ok (.invokevirtual 151, 3) := by decide +kernel
theorem dX6_two_13 : decode cX6_two 13 = .ok (.ifCond .eq 13, 3) := by decide +kernel
theorem dX6_two_16 : decode cX6_two 16 = .ok (.iload_n 1, 1) := by decide +kernel
theorem dX6_two_17 : decode cX6_two 17 = .ok (.iload_n 2, 1) := by decide +kernel
theorem dX6_two_18 : decode cX6_two 18 = .ok (.if_icmp .eq 8, 3) := by decide +kernel
theorem dX6_two_21 : decode cX6_two 21 = .ok (.iload_n 3, 1) := by decide +kernel
theorem dX6_two_22 : decode cX6_two 22 = .ok (.iconst (-1), 1) := by decide +kernel
theorem dX6_two_23 : decode cX6_two 23 = .ok (.if_icmp .ge 10, 3) := by decide +kernel
theorem dX6_two_26 : decode cX6_two 26 = .ok (.aload_n 0, 1) := by decide +kernel
theorem dX6_two_27 : decode cX6_two 27 = .ok (.bipush (-10), 2) := by decide +kernel
theorem dX6_two_29 : decode cX6_two 29 = .ok (.invokevirtual 71, 3) := by decide +kernel
theorem dX6_two_32 : decode cX6_two 32 = .ok (.ireturn, 1) := by decide +kernel
theorem dX6_two_33 : decode cX6_two 33 = .ok (.aload_n 0, 1) := by decide +kernel
theorem dX6_two_34 : decode cX6_two 34 = .ok (.getfield 40, 3) := by decide +kernel
theorem dX6_two_37 : decode cX6_two 37 = .ok (.aload_n 0, 1) := by decide +kernel
theorem dX6_two_38 : decode cX6_two 38 = .ok (.getfield 12, 3) := by decide +kernel
theorem dX6_two_41 : decode cX6_two 41 = .ok (.iload_n 1, 1) := by decide +kernel
theorem dX6_two_42 : decode cX6_two 42 = .ok (.iload_n 2, 1) := by decide +kernel
theorem dX6_two_43 : decode cX6_two 43 = .ok (.invokevirtual 209, 3) := by decide +kernel
theorem dX6_two_46 : decode cX6_two 46 = .ok (.iconst 0, 1) := by decide +kernel
theorem dX6_two_47 : decode cX6_two 47 = .ok (.istore 4, 2) := by decide +kernel
theorem dX6_two_49 : decode cX6_two 49 = .ok (.iconst 0, 1) := by decide +kernel
theorem dX6_two_50 : decode cX6_two 50 = .ok (.istore 5, 2) := by decide +kernel
theorem dX6_two_52 : decode cX6_two 52 = .ok (.iload 5, 2) := by decide +kernel
theorem dX6_two_54 : decode cX6_two 54 = .ok (.bipush 8, 2) := by decide +kernel
theorem dX6_two_56 : decode cX6_two 56 = .ok (.if_icmp .ge 57, 3) := by decide +kernel
theorem dX6_two_59 : decode cX6_two 59 = .ok (.iconst 0, 1) := by decide +kernel
theorem dX6_two_60 : decode cX6_two 60 = .ok (.istore 6, 2) := by decide +kernel
theorem dX6_two_62 : decode cX6_two 62 = .ok (.iload 6, 2) := by decide +kernel
theorem dX6_two_64 : decode cX6_two 64 = .ok (.bipush 8, 2) := by decide +kernel
theorem dX6_two_66 : decode cX6_two 66 = .ok (.if_icmp .ge 41, 3) := by decide +kernel
theorem dX6_two_69 : decode cX6_two 69 = .ok (.aload_n 0, 1) := by decide +kernel
theorem dX6_two_70 : decode cX6_two 70 = .ok (.getfield 40, 3) := by decide +kernel
theorem dX6_two_73 : decode cX6_two 73 = .ok (.iload 5, 2) := by decide +kernel
theorem dX6_two_75 : decode cX6_two 75 = .ok (.iload 6, 2) := by decide +kernel
theorem dX6_two_77 : decode cX6_two 77 = .ok (.invokevirtual 212, 3) := by decide +kernel
theorem dX6_two_80 : decode cX6_two 80 = .ok (.ifCond .eq 21, 3) := by decide +kernel
theorem dX6_two_83 : decode cX6_two 83 = .ok (.iload 4, 2) := by decide +kernel
theorem dX6_two_85 : decode cX6_two 85 = .ok (.iload_n 3, 1) := by decide +kernel
theorem dX6_two_86 : decode cX6_two 86 = .ok (.if_icmp .ne 12, 3) := by decide +kernel
theorem dX6_two_89 : decode cX6_two 89 = .ok (.bipush 8, 2) := by decide +kernel
theorem dX6_two_91 : decode cX6_two 91 = .ok (.iload 5, 2) := by decide +kernel
theorem dX6_two_93 : decode cX6_two 93 = .ok (.imul, 1) := by decide +kernel
theorem dX6_two_94 : decode cX6_two 94 = .ok (.iload 6, 2) := by decide +kernel
theorem dX6_two_96 : decode cX6_two 96 = .ok (.iadd, 1) := by decide +kernel
theorem dX6_two_97 : decode cX6_two 97 = .ok (.ireturn, 1) := by decide +kernel
theorem dX6_two_98 : decode cX6_two 98 = .ok (.iinc 4 1, 3) := by decide +kernel
theorem dX6_two_101 : decode cX6_two 101 = .ok (.iinc 6 1, 3) := by decide +kernel
theorem dX6_two_104 : decode cX6_two 104 = .ok (.goto (-42), 3) := by decide +kernel
theorem dX6_two_107 : decode cX6_two 107 = .ok (.iinc 5 1, 3) := by decide +kernel
theorem dX6_two_110 : decode cX6_two 110 = .ok (.goto (-58), 3) := by decide +kernel
theorem dX6_two_113 : decode cX6_two 113 = .ok (.iload_n 3, 1) := by decide +kernel
theorem dX6_two_114 : decode cX6_two 114 = .ok (.iconst (-1), 1) := by decide +kernel
theorem dX6_two_115 : decode cX6_two 115 = .ok (.if_icmp .ne 8, 3) := by decide +kernel
theorem dX6_two_118 : decode cX6_two 118 = .ok (.iload 4, 2) := by decide +kernel
theorem dX6_two_120 : decode cX6_two 120 = .ok (.goto 5, 3) := by decide +kernel
theorem dX6_two_123 : decode cX6_two 123 = .ok (.bipush (-5), 2) := by decide +kernel
theorem dX6_two_125 : decode cX6_two 125 = .ok (.ireturn, 1) := by decide +kernel
theorem dX6_clouds_0 : decode cX6_clouds 0 = .ok (.iload_n 1, 1) := by decide +kernel
theorem dX6_clouds_1 : decode cX6_clouds 1 = .ok (.bipush 10, 2) := by decide +kernel
theorem dX6_clouds_3 : decode cX6_clouds 3 = .ok (.invokestatic 95, 3) := by decide +kernel
theorem dX6_clouds_6 : decode cX6_clouds 6 = .ok (.ifCond .ne 10, 3) := by decide +kernel
theorem dX6_clouds_9 : decode cX6_clouds 9 = .ok (.aload_n 0, 1) := by decide +kernel
theorem dX6_clouds_10 : decode cX6_clouds 10 = .ok (.bipush (-2), 2) := by decide +kernel
theorem dX6_clouds_12 : decode cX6_clouds 12 = .ok (.invokevirtual 71, 3) := by decide +kernel
theorem dX6_clouds_15 : decode cX6_clouds 15 = .ok (.ireturn, 1) := by decide +kernel
theorem dX6_clouds_16 : decode cX6_clouds 16 = .ok (.aload_n 0, 1) := by decide +kernel
theorem dX6_clouds_17 : decode cX6_clouds 17 = .ok (.getfield 12, 3) := by decide +kernel
theorem dX6_clouds_20 : decode cX6_clouds 20 = .ok (.invokevirtual 215, 3) := by decide +kernel
theorem dX6_clouds_23 : decode cX6_clouds 23 = .ok (.bipush 10, 2) := by decide +kernel
theorem dX6_clouds_25 : decode cX6_clouds 25 = .ok (.iload_n 1, 1) := by decide +kernel
theorem dX6_clouds_26 : decode cX6_clouds 26 = .ok (.isub, 1) := by decide +kernel
theorem dX6_clouds_27 : decode cX6_clouds 27 = .ok (.imul, 1) := by decide +kernel
theorem dX6_clouds_28 : decode cX6_clouds 28 = .ok (.istore_n 2, 1) := by decide +kernel
theorem dX6_clouds_29 : decode cX6_clouds 29 = .ok (.iload_n 2, 1) := by decide +kernel
theorem dX6_clouds_30 : decode cX6_clouds 30 = .ok (.bipush 10, 2) := by decide +kernel
theorem dX6_clouds_32 : decode cX6_clouds 32 = .ok (.invokestatic 218, 3) := by decide +kernel
theorem dX6_clouds_35 : decode cX6_clouds 35 = .ok (.istore_n 3, 1) := by decide +kernel
theorem dX6_clouds_36 : decode cX6_clouds 36 = .ok (.aload_n 0, 1) := by decide +kernel
theorem dX6_clouds_37 : decode cX6_clouds 37 = .ok (.iload_n 2, 1) := by decide +kernel
theorem dX6_clouds_38 : decode cX6_clouds 38 = .ok (.iload_n 3, 1) := by decide +kernel
theorem dX6_clouds_39 : decode cX6_clouds 39 = .ok (.idiv, 1) := by decide +kernel
theorem dX6_clouds_40 : decode cX6_clouds 40 = .ok (.putfield 51, 3) := by decide +kernel
theorem dX6_clouds_43 : decode cX6_clouds 43 = .ok (.aload_n 0, 1) := by decide +kernel
theorem dX6_clouds_44 : decode cX6_clouds 44 = .ok (.bipush 10, 2) := by decide +kernel
theorem dX6_clouds_46 : decode cX6_clouds 46 = .ok (.iload_n 3, 1) := by decide +kernel
theorem dX6_clouds_47 : decode cX6_clouds 47 = .ok (.idiv, 1) := by decide +kernel
theorem dX6_clouds_48 : decode cX6_clouds 48 = .ok (.putfield 55, 3) := by decide +kernel
theorem dX6_clouds_51 : decode cX6_clouds 51 = .ok (.iconst 1, 1) := by decide +kernel
theorem dX6_clouds_52 : decode cX6_clouds 52 = .ok (.ireturn, 1) := by decide +kernel
theorem dX6_eclipses_0 : decode cX6_eclipses 0 = .ok (.iload_n 1, 1) := by decide +kernel
theorem dX6_eclipses_1 : decode cX6_eclipses 1 = .ok (.ldc 221, 2) := by decide +kernel
theorem dX6_eclipses_3 : decode cX6_eclipses 3 = .ok (.invokestatic 95, 3) := by decide +kernel
theorem dX6_eclipses_6 : decode cX6_eclipses 6 = .ok (.ifCond .eq 12, 3) := by decide +kernel
theorem dX6_eclipses_9 : decode cX6_eclipses 9 = .ok (.iload_n 2, 1) := by decide +kernel
theorem dX6_eclipses_10 : decode cX6_eclipses 10 = .ok (.bipush 60, 2) := by decide +kernel
theorem dX6_eclipses_12 : decode cX6_eclipses 12 = .ok (.invokestatic 95, 3) := by decide +kernel
theorem dX6_eclipses_15 : decode cX6_eclipses 15 = .ok (.ifCond .ne 10, 3) := by decide +kernel
theorem dX6_eclipses_18 : decode cX6_eclipses 18 = .ok (.aload_n 0, 1) := by decide +kernel
theorem dX6_eclipses_19 : decode cX6_eclipses 19 = .ok (.bipush (-2), 2) := by decide +kernel
theorem dX6_eclipses_21 : decode cX6_eclipses 21 = .ok (.invokevirtual 71, 3) := by decide +kernel
theorem dX6_eclipses_24 : decode cX6_eclipses 24 = .ok (.ireturn, 1) := by decide +kernel
theorem dX6_eclipses_25 : decode cX6_eclipses 25 = .ok (.aload_n 0, 1) := by decide +kernel
theorem dX6_eclipses_26 : decode cX6_eclipses 26 = .ok (.getfield 12, 3) := by decide +kernel
theorem dX6_eclipses_29 : decode cX6_eclipses 29 = .ok (.invokevirtual 222, 3) := by decide +kernel
theorem dX6_eclipses_32 : decode cX6_eclipses 32 = .ok (.istore_n 3, 1) := by decide +kernel
theorem dX6_eclipses_33 : decode cX6_eclipses 33 = .ok (.iload_n 1, 1) := by decide +kernel
theorem dX6_eclipses_34 : decode cX6_eclipses 34 = .ok (.i2l, 1) := by decide +kernel
theorem dX6_eclipses_35 : decode cX6_eclipses 35 = .ok (.lstore 4, 2) := by decide +kernel
theorem dX6_eclipses_37 : decode cX6_eclipses 37 = .ok (.iconst 0, 1) := by decide +kernel
theorem dX6_eclipses_38 : decode cX6_eclipses 38 = .ok (.istore 6, 2) := by decide +kernel
theorem dX6_eclipses_40 : decode cX6_eclipses 40 = .ok (.iconst 0, 1) := by decide +kernel
theorem dX6_eclipses_41 : decode cX6_eclipses 41 = .ok (.istore 7, 2) := by decide +kernel
theorem dX6_eclipses_43 : decode cX6_eclipses 43 = .ok (.iload 7, 2) := by decide +kernel
theorem dX6_eclipses_45 : decode cX6_eclipses 45 = .ok (.iload_n 2, 1) := by decide +kernel
theorem dX6_eclipses_46 : decode cX6_eclipses 46 = .ok (.if_icmp .ge 64, 3) := by decide +kernel
theorem dX6_eclipses_49 : decode cX6_eclipses 49 = .ok (.lload 4, 2) := by decide +kernel
theorem dX6_eclipses_51 : decode cX6_eclipses 51 = .ok (.ldc2_w 225, 3) := by decide +kernel
theorem dX6_eclipses_54 : decode cX6_eclipses 54 = .ok (.lmul, 1) := by decide +kernel
theorem dX6_eclipses_55 : decode cX6_eclipses 55 = .ok (.ldc2_w 227, 3) := by decide +kernel
theorem dX6_eclipses_58 : decode cX6_eclipses 58 = .ok (.ladd, 1) := by decide +kernel
theorem dX6_eclipses_59 : decode cX6_eclipses 59 = .ok (.ldc2_w 229, 3) := by decide +kernel
theorem dX6_eclipses_62 : decode cX6_eclipses 62 = .ok (.lrem, 1) := by decide +kernel
theorem dX6_eclipses_63 : decode cX6_eclipses 63 = .ok (.lstore 4, 2) := by decide +kernel
theorem dX6_eclipses_65 : decode cX6_eclipses 65 = .ok (.lload 4, 2) := by decide +kernel
theorem dX6_eclipses_67 : decode cX6_eclipses 67 = .ok (.ldc2_w 231, 3) := by decide +kernel
theorem dX6_eclipses_70 : decode cX6_eclipses 70 = .ok (.ldiv, 1) := by decide +kernel
theorem dX6_eclipses_71 : decode cX6_eclipses 71 = .ok (.ldc2_w 233, 3) := by decide +kernel
theorem dX6_eclipses_74 : decode cX6_eclipses 74 = .ok (.lrem, 1) := by decide +kernel
theorem dX6_eclipses_75 : decode cX6_eclipses 75 = .ok (.l2i, 1) := by decide +kernel
theorem dX6_eclipses_76 : decode cX6_eclipses 76 = .ok (.istore 8, 2) := by decide +kernel
theorem dX6_eclipses_78 : decode cX6_eclipses 78 = .ok (.lload 4, 2) := by decide +kernel
theorem dX6_eclipses_80 : decode cX6_eclipses 80 = .ok (.ldc2_w 235, 3) := by decide +kernel
theorem dX6_eclipses_83 : decode cX6_eclipses 83 = .ok (.ldiv, 1) := by decide +kernel
theorem dX6_eclipses_84 : decode cX6_eclipses 84 = .ok (.ldc2_w 237, 3) := by decide +kernel
theorem dX6_eclipses_87 : decode cX6_eclipses 87 = .ok (.lrem, 1) := by decide +kernel
theorem dX6_eclipses_88 : decode cX6_eclipses 88 = .ok (.l2i, 1) := by decide +kernel
theorem dX6_eclipses_89 : decode cX6_eclipses 89 = .ok (.istore 9, 2) := by decide +kernel
theorem dX6_eclipses_91 : decode cX6_eclipses 91 = .ok (.iload 6, 2) := by decide +kernel
theorem dX6_eclipses_93 : decode cX6_eclipses 93 = .ok (.iload_n 3, 1) := by decide +kernel
theorem dX6_eclipses_94 : decode cX6_eclipses 94 = .ok (.iload 8, 2) := by decide +kernel
theorem dX6_eclipses_96 : decode cX6_eclipses 96 = .ok (.iload 9, 2) := by decide +kernel
theorem dX6_eclipses_98 : decode cX6_eclipses 98 = .ok (.invokestatic 239, 3) := by decide +kernel
theorem dX6_eclipses_101 : decode cX6_eclipses 101 = .ok (.iadd, 1) := by decide +kernel
theorem dX6_eclipses_102 : decode cX6_eclipses 102 = .ok (.istore 6, 2) := by decide +kernel
theorem dX6_eclipses_104 : decode cX6_eclipses 104 = .ok (.iinc 7 1, 3) := by decide +kernel
theorem dX6_eclipses_107 : decode cX6_eclipses 107 = .ok (.goto (-64), 3) := by decide +kernel
theorem dX6_eclipses_110 : decode cX6_eclipses 110 = .ok (.iload 6, 2) := by decide +kernel
theorem dX6_eclipses_112 : decode cX6_eclipses 112 = .ok (.ireturn, 1) := by decide +kernel
theorem dX6_part_0 : decode cX6_part 0 = .ok (.iload_n 1, 1) := by decide +kernel
theorem dX6_part_1 : decode cX6_part 1 = .ok (.lookupswitch 39 #[(0, 27), (1, 33)], 27) := by decide +kernel
theorem dX6_part_28 : decode cX6_part 28 = .ok (.aload_n 0, 1) := by decide +kernel
theorem dX6_part_29 : decode cX6_part 29 = .ok (.getfield 51, 3) := by decide +kernel
theorem dX6_part_32 : decode cX6_part 32 = .ok (.i2l, 1) := by decide +kernel
theorem dX6_part_33 : decode cX6_part 33 = .ok (.lreturn, 1) := by decide +kernel
theorem dX6_part_34 : decode cX6_part 34 = .ok (.aload_n 0, 1) := by decide +kernel
theorem dX6_part_35 : decode cX6_part 35 = .ok (.getfield 55, 3) := by decide +kernel
theorem dX6_part_38 : decode cX6_part 38 = .ok (.i2l, 1) := by decide +kernel
theorem dX6_part_39 : decode cX6_part 39 = .ok (.lreturn, 1) := by decide +kernel
theorem dX6_part_40 : decode cX6_part 40 = .ok (.aload_n 0, 1) := by decide +kernel
theorem dX6_part_41 : decode cX6_part 41 = .ok (.bipush (-2), 2) := by decide +kernel
theorem dX6_part_43 : decode cX6_part 43 = .ok (.invokevirtual 71, 3) := by decide +kernel
theorem dX6_part_46 : decode cX6_part 46 = .ok (.i2l, 1) := by decide +kernel
theorem dX6_part_47 : decode cX6_part 47 = .ok (.lreturn, 1) := by decide +kernel
theorem dX6_image_0 : decode cX6_image 0 = .ok (.iload_n 1, 1) := by decide +kernel
theorem dX6_image_1 : decode cX6_image 1 = .ok (.iconst 1, 1) := by decide +kernel
theorem dX6_image_2 : decode cX6_image 2 = .ok (.invokestatic 95, 3) := by decide +kernel
theorem dX6_image_5 : decode cX6_image 5 = .ok (.ifCond .ne 10, 3) := by decide +kernel
theorem dX6_image_8 : decode cX6_image 8 = .ok (.aload_n 0, 1) := by decide +kernel
theorem dX6_image_9 : decode cX6_image 9 = .ok (.bipush (-2), 2) := by decide +kernel
theorem dX6_image_11 : decode cX6_image 11 = .ok (.invokevirtual 71, 3) := by decide +kernel
theorem dX6_image_14 : decode cX6_image 14 = .ok (.ireturn, 1) := by decide +kernel
theorem dX6_image_15 : decode cX6_image 15 = .ok (.aload_n 0, 1) := by decide +kernel
theorem dX6_image_16 : decode cX6_image 16 = .ok (.getfield 19, 3) := by decide +kernel
theorem dX6_image_19 : decode cX6_image 19 = .ok (.iload_n 1, 1) := by decide +kernel
theorem dX6_image_20 : decode cX6_image 20 = .ok (.aaload, 1) := by decide +kernel
theorem dX6_image_21 : decode cX6_image 21 = .ok (.astore_n 2, 1) := by decide +kernel
theorem dX6_image_22 : decode cX6_image 22 = .ok (.aload_n 2, 1) := by decide +kernel
theorem dX6_image_23 : decode cX6_image 23 = .ok (.ifnonnull 18, 3) := by decide +kernel
theorem dX6_image_26 : decode cX6_image 26 = .ok (.new 9, 3) := by decide +kernel
theorem dX6_image_29 : decode cX6_image 29 = .ok (.dup, 1) := by decide +kernel
theorem dX6_image_30 : decode cX6_image 30 = .ok (.invokespecial 11, 3) := by decide +kernel
theorem dX6_image_33 : decode cX6_image 33 = .ok (.astore_n 2, 1) := by decide +kernel
theorem dX6_image_34 : decode cX6_image 34 = .ok (.aload_n 0, 1) := by decide +kernel
theorem dX6_image_35 : decode cX6_image 35 = .ok (.getfield 19, 3) := by decide +kernel
theorem dX6_image_38 : decode cX6_image 38 = .ok (.iload_n 1, 1) := by decide +kernel
theorem dX6_image_39 : decode cX6_image 39 = .ok (.aload_n 2, 1) := by decide +kernel
theorem dX6_image_40 : decode cX6_image 40 = .ok (.aastore, 1) := by decide +kernel
theorem dX6_image_41 : decode cX6_image 41 = .ok (.aload_n 2, 1) := by decide +kernel
theorem dX6_image_42 : decode cX6_image 42 = .ok (.aload_n 0, 1) := by decide +kernel
theorem dX6_image_43 : decode cX6_image 43 = .ok (.getfield 12, 3) := by decide +kernel
theorem dX6_image_46 : decode cX6_image 46 = .ok (.invokevirtual 123, 3) := by decide +kernel
theorem dX6_image_49 : decode cX6_image 49 = .ok (.iconst 1, 1) := by decide +kernel
theorem dX6_image_50 : decode cX6_image 50 = .ok (.ireturn, 1) := by decide +kernel
theorem dX6_from_0 : decode cX6_from 0 = .ok (.iload_n 1, 1) := by decide +kernel
theorem dX6_from_1 : decode cX6_from 1 = .ok (.iconst 1, 1) := by decide +kernel
theorem dX6_from_2 : decode cX6_from 2 = .ok (.invokestatic 95, 3) := by decide +kernel
theorem dX6_from_5 : decode cX6_from 5 = .ok (.ifCond .ne 10, 3) := by decide +kernel
theorem dX6_from_8 : decode cX6_from 8 = .ok (.aload_n 0, 1) := by decide +kernel
theorem dX6_from_9 : decode cX6_from 9 = .ok (.bipush (-2), 2) := by decide +kernel
theorem dX6_from_11 : decode cX6_from 11 = .ok (.invokevirtual 71, 3) := by decide +kernel
theorem dX6_from_14 : decode cX6_from 14 = .ok (.ireturn, 1) := by decide +kernel
theorem dX6_from_15 : decode cX6_from 15 = .ok (.aload_n 0, 1) := by decide +kernel
theorem dX6_from_16 : decode cX6_from 16 = .ok (.getfield 19, 3) := by decide +kernel
theorem dX6_from_19 : decode cX6_from 19 = .ok (.iload_n 1, 1) := by decide +kernel
theorem dX6_from_20 : decode cX6_from 20 = .ok (.aaload, 1) := by decide +kernel
theorem dX6_from_21 : decode cX6_from 21 = .ok (.astore_n 2, 1) := by decide +kernel
theorem dX6_from_22 : decode cX6_from 22 = .ok (.aload_n 2, 1) := by decide +kernel
theorem dX6_from_23 : decode cX6_from 23 = .ok (.ifnonnull 8, 3) := by decide +kernel
theorem dX6_from_26 : decode cX6_from 26 = .ok (.aload_n 0, 1) := by decide +kernel
theorem dX6_from_27 : decode cX6_from 27 = .ok (.invokevirtual 130, 3) := by decide +kernel
theorem dX6_from_30 : decode cX6_from 30 = .ok (.ireturn, 1) := by decide +kernel
theorem dX6_from_31 : decode cX6_from 31 = .ok (.aload_n 0, 1) := by decide +kernel
theorem dX6_from_32 : decode cX6_from 32 = .ok (.getfield 12, 3) := by decide +kernel
theorem dX6_from_35 : decode cX6_from 35 = .ok (.aload_n 2, 1) := by decide +kernel
theorem dX6_from_36 : decode cX6_from 36 = .ok (.invokevirtual 123, 3) := by decide +kernel
theorem dX6_from_39 : decode cX6_from 39 = .ok (.iconst 1, 1) := by decide +kernel
theorem dX6_from_40 : decode cX6_from 40 = .ok (.ireturn, 1) := by decide +kernel
theorem dX6_status_0 : decode cX6_status 0 = .ok (.iload_n 1, 1) := by decide +kernel
theorem dX6_status_1 : decode cX6_status 1 = .ok (.tableswitch 42 0 2 #[27, 32, 37], 27) := by decide +kernel
theorem dX6_status_28 : decode cX6_status 28 = .ok (.aload_n 0, 1) := by decide +kernel
theorem dX6_status_29 : decode cX6_status 29 = .ok (.getfield 58, 3) := by decide +kernel
theorem dX6_status_32 : decode cX6_status 32 = .ok (.ireturn, 1) := by decide +kernel
theorem dX6_status_33 : decode cX6_status 33 = .ok (.aload_n 0, 1) := by decide +kernel
theorem dX6_status_34 : decode cX6_status 34 = .ok (.getfield 61, 3) := by decide +kernel
theorem dX6_status_37 : decode cX6_status 37 = .ok (.ireturn, 1) := by decide +kernel
theorem dX6_status_38 : decode cX6_status 38 = .ok (.aload_n 0, 1) := by decide +kernel
theorem dX6_status_39 : decode cX6_status 39 = .ok (.getfield 64, 3) := by decide +kernel
theorem dX6_status_42 : decode cX6_status 42 = .ok (.ireturn, 1) := by decide +kernel
theorem dX6_status_43 : decode cX6_status 43 = .ok (.aload_n 0, 1) := by decide +kernel
theorem dX6_status_44 : decode cX6_status 44 = .ok (.iconst (-1), 1) := by decide +kernel
theorem dX6_status_45 : decode cX6_status 45 = .ok (.invokevirtual 71, 3) := by decide +kernel
theorem dX6_status_48 : decode cX6_status 48 = .ok (.ireturn, 1) := by decide +kernel
theorem dX6_count_0 : decode cX6_count 0 = .ok (.iload_n 1, 1) := by decide +kernel
theorem dX6_count_1 : decode cX6_count 1 = .ok (.bipush 6, 2) := by decide +kernel
theorem dX6_count_3 : decode cX6_count 3 = .ok (.invokestatic 95, 3) := by decide +kernel
theorem dX6_count_6 : decode cX6_count 6 = .ok (.ifCond .eq 11, 3) := by decide +kernel
theorem dX6_count_9 : decode cX6_count 9 = .ok (.aload_n 0, 1) := by decide +kernel
theorem dX6_count_10 : decode cX6_count 10 = .ok (.iload_n 1, 1) := by decide +kernel
theorem dX6_count_11 : decode cX6_count 11 = .ok (.invokevirtual 243, 3) := by decide +kernel
theorem dX6_count_14 : decode cX6_count 14 = .ok (.goto 9, 3) := by decide +kernel
theorem dX6_count_17 : decode cX6_count 17 = .ok (.aload_n 0, 1) := by decide +kernel
theorem dX6_count_18 : decode cX6_count 18 = .ok (.bipush (-2), 2) := by decide +kernel
theorem dX6_count_20 : decode cX6_count 20 = .ok (.invokevirtual 71, 3) := by decide +kernel
theorem dX6_count_23 : decode cX6_count 23 = .ok (.ireturn, 1) := by decide +kernel
theorem dX6_digest_0 : decode cX6_digest 0 = .ok (.ldc2_w 246, 3) := by decide +kernel
theorem dX6_digest_3 : decode cX6_digest 3 = .ok (.lstore_n 1, 1) := by decide +kernel
theorem dX6_digest_4 : decode cX6_digest 4 = .ok (.iconst 0, 1) := by decide +kernel
theorem dX6_digest_5 : decode cX6_digest 5 = .ok (.istore_n 3, 1) := by decide +kernel
theorem dX6_digest_6 : decode cX6_digest 6 = .ok (.iload_n 3, 1) := by decide +kernel
theorem dX6_digest_7 : decode cX6_digest 7 = .ok (.bipush 7, 2) := by decide +kernel
theorem dX6_digest_9 : decode cX6_digest 9 = .ok (.if_icmp .ge 22, 3) := by decide +kernel
theorem dX6_digest_12 : decode cX6_digest 12 = .ok (.ldc2_w 248, 3) := by decide +kernel
theorem dX6_digest_15 : decode cX6_digest 15 = .ok (.lload_n 1, 1) := by decide +kernel
theorem dX6_digest_16 : decode cX6_digest 16 = .ok (.lmul, 1) := by decide +kernel
theorem dX6_digest_17 : decode cX6_digest 17 = .ok (.aload_n 0, 1) := by decide +kernel
theorem dX6_digest_18 : decode cX6_digest 18 = .ok (.iload_n 3, 1) := by decide +kernel
theorem dX6_digest_19 : decode cX6_digest 19 = .ok (.invokevirtual 243, 3) := by decide +kernel
theorem dX6_digest_22 : decode cX6_digest 22 = .ok (.i2l, 1) := by decide +kernel
theorem dX6_digest_23 : decode cX6_digest 23 = .ok (.ladd, 1) := by decide +kernel
theorem dX6_digest_24 : decode cX6_digest 24 = .ok (.lstore_n 1, 1) := by decide +kernel
theorem dX6_digest_25 : decode cX6_digest 25 = .ok (.iinc 3 1, 3) := by decide +kernel
theorem dX6_digest_28 : decode cX6_digest 28 = .ok (.goto (-22), 3) := by decide +kernel
theorem dX6_digest_31 : decode cX6_digest 31 = .ok (.ldc2_w 248, 3) := by decide +kernel
theorem dX6_digest_34 : decode cX6_digest 34 = .ok (.lload_n 1, 1) := by decide +kernel
theorem dX6_digest_35 : decode cX6_digest 35 = .ok (.lmul, 1) := by decide +kernel
theorem dX6_digest_36 : decode cX6_digest 36 = .ok (.aload_n 0, 1) := by decide +kernel
theorem dX6_digest_37 : decode cX6_digest 37 = .ok (.getfield 12, 3) := by decide +kernel
theorem dX6_digest_40 : decode cX6_digest 40 = .ok (.getfield 82, 3) := by decide +kernel
theorem dX6_digest_43 : decode cX6_digest 43 = .ok (.i2l, 1) := by decide +kernel
theorem dX6_digest_44 : decode cX6_digest 44 = .ok (.ladd, 1) := by decide +kernel
theorem dX6_digest_45 : decode cX6_digest 45 = .ok (.lstore_n 1, 1) := by decide +kernel
theorem dX6_digest_46 : decode cX6_digest 46 = .ok (.ldc2_w 248, 3) := by decide +kernel
theorem dX6_digest_49 : decode cX6_digest 49 = .ok (.lload_n 1, 1) := by decide +kernel
theorem dX6_digest_50 : decode cX6_digest 50 = .ok (.lmul, 1) := by decide +kernel
theorem dX6_digest_51 : decode cX6_digest 51 = .ok (.aload_n 0, 1) := by decide +kernel
theorem dX6_digest_52 : decode cX6_digest 52 = .ok (.getfield 12, 3) := by decide +kernel
theorem dX6_digest_55 : decode cX6_digest 55 = .ok (.getfield 85, 3) := by decide +kernel
theorem dX6_digest_58 : decode cX6_digest 58 = .ok (.i2l, 1) := by decide +kernel
theorem dX6_digest_59 : decode cX6_digest 59 = .ok (.ladd, 1) := by decide +kernel
theorem dX6_digest_60 : decode cX6_digest 60 = .ok (.lstore_n 1, 1) := by decide +kernel
theorem dX6_digest_61 : decode cX6_digest 61 = .ok (.iconst 0, 1) := by decide +kernel
theorem dX6_digest_62 : decode cX6_digest 62 = .ok (.istore_n 3, 1) := by decide +kernel
theorem dX6_digest_63 : decode cX6_digest 63 = .ok (.iload_n 3, 1) := by decide +kernel
theorem dX6_digest_64 : decode cX6_digest 64 = .ok (.bipush 8, 2) := by decide +kernel
theorem dX6_digest_66 : decode cX6_digest 66 = .ok (.if_icmp .ge 26, 3) := by decide +kernel
theorem dX6_digest_69 : decode cX6_digest 69 = .ok (.ldc2_w 248, 3) := by decide +kernel
theorem dX6_digest_72 : decode cX6_digest 72 = .ok (.lload_n 1, 1) := by decide +kernel
theorem dX6_digest_73 : decode cX6_digest 73 = .ok (.lmul, 1) := by decide +kernel
theorem dX6_digest_74 : decode cX6_digest 74 = .ok (.aload_n 0, 1) := by decide +kernel
theorem dX6_digest_75 : decode cX6_digest 75 = .ok (.getfield 12, 3) := by decide +kernel
theorem dX6_digest_78 : decode cX6_digest 78 = .ok (.getfield 98, 3) := by decide +kernel
theorem dX6_digest_81 : decode cX6_digest 81 = .ok (.iload_n 3, 1) := by decide +kernel
theorem dX6_digest_82 : decode cX6_digest 82 = .ok (.iaload, 1) := by decide +kernel
theorem dX6_digest_83 : decode cX6_digest 83 = .ok (.i2l, 1) := by decide +kernel
theorem dX6_digest_84 : decode cX6_digest 84 = .ok (.ladd, 1) := by decide +kernel
theorem dX6_digest_85 : decode cX6_digest 85 = .ok (.lstore_n 1, 1) := by decide +kernel
theorem dX6_digest_86 : decode cX6_digest 86 = .ok (.iinc 3 1, 3) := by decide +kernel
theorem dX6_digest_89 : decode cX6_digest 89 = .ok (.goto (-26), 3) := by decide +kernel
theorem dX6_digest_92 : decode cX6_digest 92 = .ok (.iconst 0, 1) := by decide +kernel
theorem dX6_digest_93 : decode cX6_digest 93 = .ok (.istore_n 3, 1) := by decide +kernel
theorem dX6_digest_94 : decode cX6_digest 94 = .ok (.iload_n 3, 1) := by decide +kernel
theorem dX6_digest_95 : decode cX6_digest 95 = .ok (.aload_n 0, 1) := by decide +kernel
theorem dX6_digest_96 : decode cX6_digest 96 = .ok (.getfield 12, 3) := by decide +kernel
theorem dX6_digest_99 : decode cX6_digest 99 = .ok (.getfield 75, 3) := by decide +kernel
theorem dX6_digest_102 : decode cX6_digest 102 = .ok (.if_icmp .ge 77, 3) := by decide +kernel
theorem dX6_digest_105 : decode cX6_digest 105 = .ok (.ldc2_w 248, 3) := by decide +kernel
theorem dX6_digest_108 : decode cX6_digest 108 = .ok (.lload_n 1, 1) := by decide +kernel
theorem dX6_digest_109 : decode cX6_digest 109 = .ok (.lmul, 1) := by decide +kernel
theorem dX6_digest_110 : decode cX6_digest 110 = .ok (.aload_n 0, 1) := by decide +kernel
theorem dX6_digest_111 : decode cX6_digest 111 = .ok (.getfield 12, 3) := by decide +kernel
theorem dX6_digest_114 : decode cX6_digest 114 = .ok (.getfield 160, 3) := by decide +kernel
theorem dX6_digest_117 : decode cX6_digest 117 = .ok (.iload_n 3, 1) := by decide +kernel
theorem dX6_digest_118 : decode cX6_digest 118 = .ok (.iaload, 1) := by decide +kernel
theorem dX6_digest_119 : decode cX6_digest 119 = .ok (.i2l, 1) := by decide +kernel
theorem dX6_digest_120 : decode cX6_digest 120 = .ok (.ladd, 1) := by decide +kernel
theorem dX6_digest_121 : decode cX6_digest 121 = .ok (.lstore_n 1, 1) := by decide +kernel
theorem dX6_digest_122 : decode cX6_digest 122 = .ok (.ldc2_w 248, 3) := by decide +kernel
theorem dX6_digest_125 : decode cX6_digest 125 = .ok (.lload_n 1, 1) := by decide +kernel
theorem dX6_digest_126 : decode cX6_digest 126 = .ok (.lmul, 1) := by decide +kernel
theorem dX6_digest_127 : decode cX6_digest 127 = .ok (.aload_n 0, 1) := by decide +kernel
theorem dX6_digest_128 : decode cX6_digest 128 = .ok (.getfield 12, 3) := by decide +kernel
theorem dX6_digest_131 : decode cX6_digest 131 = .ok (.getfield 142, 3) := by decide +kernel
theorem dX6_digest_134 : decode cX6_digest 134 = .ok (.iload_n 3, 1) := by decide +kernel
theorem dX6_digest_135 : decode cX6_digest 135 = .ok (.iaload, 1) := by decide +kernel
theorem dX6_digest_136 : decode cX6_digest 136 = .ok (.i2l, 1) := by decide +kernel
theorem dX6_digest_137 : decode cX6_digest 137 = .ok (.ladd, 1) := by decide +kernel
theorem dX6_digest_138 : decode cX6_digest 138 = .ok (.lstore_n 1, 1) := by decide +kernel
theorem dX6_digest_139 : decode cX6_digest 139 = .ok (.ldc2_w 248, 3) := by decide +kernel
theorem dX6_digest_142 : decode cX6_digest 142 = .ok (.lload_n 1, 1) := by decide +kernel
theorem dX6_digest_143 : decode cX6_digest 143 = .ok (.lmul, 1) := by decide +kernel
theorem dX6_digest_144 : decode cX6_digest 144 = .ok (.aload_n 0, 1) := by decide +kernel
theorem dX6_digest_145 : decode cX6_digest 145 = .ok (.getfield 12, 3) := by decide +kernel
theorem dX6_digest_148 : decode cX6_digest 148 = .ok (.getfield 145, 3) := by decide +kernel
theorem dX6_digest_151 : decode cX6_digest 151 = .ok (.iload_n 3, 1) := by decide +kernel
theorem dX6_digest_152 : decode cX6_digest 152 = .ok (.iaload, 1) := by decide +kernel
theorem dX6_digest_153 : decode cX6_digest 153 = .ok (.i2l, 1) := by decide +kernel
theorem dX6_digest_154 : decode cX6_digest 154 = .ok (.ladd, 1) := by decide +kernel
theorem dX6_digest_155 : decode cX6_digest 155 = .ok (.lstore_n 1, 1) := by decide +kernel
theorem dX6_digest_156 : decode cX6_digest 156 = .ok (.ldc2_w 248, 3) := by decide +kernel
theorem dX6_digest_159 : decode cX6_digest 159 = .ok (.lload_n 1, 1) := by decide +kernel
theorem dX6_digest_160 : decode cX6_digest 160 = .ok (.lmul, 1) := by decide +kernel
theorem dX6_digest_161 : decode cX6_digest 161 = .ok (.aload_n 0, 1) := by decide +kernel
theorem dX6_digest_162 : decode cX6_digest 162 = .ok (.getfield 12, 3) := by decide +kernel
theorem dX6_digest_165 : decode cX6_digest 165 = .ok (.getfield 148, 3) := by decide +kernel
theorem dX6_digest_168 : decode cX6_digest 168 = .ok (.iload_n 3, 1) := by decide +kernel
theorem dX6_digest_169 : decode cX6_digest 169 = .ok (.iaload, 1) := by decide +kernel
theorem dX6_digest_170 : decode cX6_digest 170 = .ok (.i2l, 1) := by decide +kernel
theorem dX6_digest_171 : decode cX6_digest 171 = .ok (.ladd, 1) := by decide +kernel
theorem dX6_digest_172 : decode cX6_digest 172 = .ok (.lstore_n 1, 1) := by decide +kernel
theorem dX6_digest_173 : decode cX6_digest 173 = .ok (.iinc 3 1, 3) := by decide +kernel
theorem dX6_digest_176 : decode cX6_digest 176 = .ok (.goto (-82), 3) := by decide +kernel
theorem dX6_digest_179 : decode cX6_digest 179 = .ok (.iconst 0, 1) := by decide +kernel
theorem dX6_digest_180 : decode cX6_digest 180 = .ok (.istore_n 3, 1) := by decide +kernel
theorem dX6_digest_181 : decode cX6_digest 181 = .ok (.iload_n 3, 1) := by decide +kernel
theorem dX6_digest_182 : decode cX6_digest 182 = .ok (.aload_n 0, 1) := by decide +kernel
theorem dX6_digest_183 : decode cX6_digest 183 = .ok (.getfield 12, 3) := by decide +kernel
theorem dX6_digest_186 : decode cX6_digest 186 = .ok (.getfield 196, 3) := by decide +kernel
theorem dX6_digest_189 : decode cX6_digest 189 = .ok (.iconst 4, 1) := by decide +kernel
theorem dX6_digest_190 : decode cX6_digest 190 = .ok (.imul, 1) := by decide +kernel
theorem dX6_digest_191 : decode cX6_digest 191 = .ok (.if_icmp .ge 26, 3) := by decide +kernel
theorem dX6_digest_194 : decode cX6_digest 194 = .ok (.ldc2_w 248, 3) := by decide +kernel
theorem dX6_digest_197 : decode cX6_digest 197 = .ok (.lload_n 1, 1) := by decide +kernel
theorem dX6_digest_198 : decode cX6_digest 198 = .ok (.lmul, 1) := by decide +kernel
theorem dX6_digest_199 : decode cX6_digest 199 = .ok (.aload_n 0, 1) := by decide +kernel
theorem dX6_digest_200 : decode cX6_digest 200 = .ok (.getfield 12, 3) := by decide +kernel
theorem dX6_digest_203 : decode cX6_digest 203 = .ok (.getfield 199, 3) := by decide +kernel
theorem dX6_digest_206 : decode cX6_digest 206 = .ok (.iload_n 3, 1) := by decide +kernel
theorem dX6_digest_207 : decode cX6_digest 207 = .ok (.iaload, 1) := by decide +kernel
theorem dX6_digest_208 : decode cX6_digest 208 = .ok (.i2l, 1) := by decide +kernel
theorem dX6_digest_209 : decode cX6_digest 209 = .ok (.ladd, 1) := by decide +kernel
theorem dX6_digest_210 : decode cX6_digest 210 = .ok (.lstore_n 1, 1) := by decide +kernel
theorem dX6_digest_211 : decode cX6_digest 211 = .ok (.iinc 3 1, 3) := by decide +kernel
theorem dX6_digest_214 : decode cX6_digest 214 = .ok (.goto (-33), 3) := by decide +kernel
theorem dX6_digest_217 : decode cX6_digest 217 = .ok (.ldc2_w 248, 3) := by decide +kernel
theorem dX6_digest_220 : decode cX6_digest 220 = .ok (.lload_n 1, 1) := by decide +kernel
theorem dX6_digest_221 : decode cX6_digest 221 = .ok (.lmul, 1) := by decide +kernel
theorem dX6_digest_222 : decode cX6_digest 222 = .ok (.aload_n 0, 1) := by decide +kernel
theorem dX6_digest_223 : decode cX6_digest 223 = .ok (.getfield 51, 3) := by decide +kernel
theorem dX6_digest_226 : decode cX6_digest 226 = .ok (.i2l, 1) := by decide +kernel
theorem dX6_digest_227 : decode cX6_digest 227 = .ok (.ladd, 1) := by decide +kernel
theorem dX6_digest_228 : decode cX6_digest 228 = .ok (.lstore_n 1, 1) := by decide +kernel
theorem dX6_digest_229 : decode cX6_digest 229 = .ok (.ldc2_w 248, 3) := by decide +kernel
theorem dX6_digest_232 : decode cX6_digest 232 = .ok (.lload_n 1, 1) := by decide +kernel
theorem dX6_digest_233 : decode cX6_digest 233 = .ok (.lmul, 1) := by decide +kernel
theorem dX6_digest_234 : decode cX6_digest 234 = .ok (.aload_n 0, 1) := by decide +kernel
theorem dX6_digest_235 : decode cX6_digest 235 = .ok (.getfield 55, 3) := by decide +kernel
theorem dX6_digest_238 : decode cX6_digest 238 = .ok (.i2l, 1) := by decide +kernel
theorem dX6_digest_239 : decode cX6_digest 239 = .ok (.ladd, 1) := by decide +kernel
theorem dX6_digest_240 : decode cX6_digest 240 = .ok (.lreturn, 1) := by decide +kernel
theorem dX6_howMany_0 : decode cX6_howMany 0 = .ok (.iload_n 1, 1) := by decide +kernel
theorem dX6_howMany_1 : decode cX6_howMany 1 = .ok (.tableswitch 87 0 5 #[39, 47, 55, 63, 71, 79], 39) := by decide +kernel
theorem dX6_howMany_40 : decode cX6_howMany 40 = .ok (.aload_n 0, 1) := by decide +kernel
theorem dX6_howMany_41 : decode cX6_howMany 41 = .ok (.getfield 12, 3) := by decide +kernel
theorem dX6_howMany_44 : decode cX6_howMany 44 = .ok (.getfield 75, 3) := by decide +kernel
theorem dX6_howMany_47 : decode cX6_howMany 47 = .ok (.ireturn, 1) := by decide +kernel
theorem dX6_howMany_48 : decode cX6_howMany 48 = .ok (.aload_n 0, 1) := by decide +kernel
theorem dX6_howMany_49 : decode cX6_howMany 49 = .ok (.getfield 12, 3) := by decide +kernel
theorem dX6_howMany_52 : decode cX6_howMany 52 = .ok (.invokevirtual 157, 3) := by decide +kernel
theorem dX6_howMany_55 : decode cX6_howMany 55 = .ok (.ireturn, 1) := by decide +kernel
theorem dX6_howMany_56 : decode cX6_howMany 56 = .ok (.aload_n 0, 1) := by decide +kernel
theorem dX6_howMany_57 : decode cX6_howMany 57 = .ok (.getfield 12, 3) := by decide +kernel
theorem dX6_howMany_60 : decode cX6_howMany 60 = .ok (.invokevirtual 215, 3) := by decide +kernel
theorem dX6_howMany_63 : decode cX6_howMany 63 = .ok (.ireturn, 1) := by decide +kernel
theorem dX6_howMany_64 : decode cX6_howMany 64 = .ok (.aload_n 0, 1) := by decide +kernel
theorem dX6_howMany_65 : decode cX6_howMany 65 = .ok (.getfield 12, 3) := by decide +kernel
theorem dX6_howMany_68 : decode cX6_howMany 68 = .ok (.invokevirtual 250, 3) := by decide +kernel
theorem dX6_howMany_71 : decode cX6_howMany 71 = .ok (.ireturn, 1) := by decide +kernel
theorem dX6_howMany_72 : decode cX6_howMany 72 = .ok (.aload_n 0, 1) := by decide +kernel
theorem dX6_howMany_73 : decode cX6_howMany 73 = .ok (.getfield 12, 3) := by decide +kernel
theorem dX6_howMany_76 : decode cX6_howMany 76 = .ok (.getfield 196, 3) := by decide +kernel
theorem dX6_howMany_79 : decode cX6_howMany 79 = .ok (.ireturn, 1) := by decide +kernel
theorem dX6_howMany_80 : decode cX6_howMany 80 = .ok (.aload_n 0, 1) := by decide +kernel
theorem dX6_howMany_81 : decode cX6_howMany 81 = .ok (.getfield 12, 3) := by decide +kernel
theorem dX6_howMany_84 : decode cX6_howMany 84 = .ok (.getfield 88, 3) := by decide +kernel
theorem dX6_howMany_87 : decode cX6_howMany 87 = .ok (.ireturn, 1) := by decide +kernel
theorem dX6_howMany_88 : decode cX6_howMany 88 = .ok (.aload_n 0, 1) := by decide +kernel
theorem dX6_howMany_89 : decode cX6_howMany 89 = .ok (.getfield 26, 3) := by decide +kernel
theorem dX6_howMany_92 : decode cX6_howMany 92 = .ok (.getfield 112, 3) := by decide +kernel
theorem dX6_howMany_95 : decode cX6_howMany 95 = .ok (.ireturn, 1) := by decide +kernel
theorem dX6_bad_0 : decode cX6_bad 0 = .ok (.aload_n 0, 1) := by decide +kernel
theorem dX6_bad_1 : decode cX6_bad 1 = .ok (.dup, 1) := by decide +kernel
theorem dX6_bad_2 : decode cX6_bad 2 = .ok (.getfield 58, 3) := by decide +kernel
theorem dX6_bad_5 : decode cX6_bad 5 = .ok (.iconst 1, 1) := by decide +kernel
theorem dX6_bad_6 : decode cX6_bad 6 = .ok (.iadd, 1) := by decide +kernel
theorem dX6_bad_7 : decode cX6_bad 7 = .ok (.putfield 58, 3) := by decide +kernel
theorem dX6_bad_10 : decode cX6_bad 10 = .ok (.iload_n 1, 1) := by decide +kernel
theorem dX6_bad_11 : decode cX6_bad 11 = .ok (.ireturn, 1) := by decide +kernel
theorem dX6_no_0 : decode cX6_no 0 = .ok (.aload_n 0, 1) := by decide +kernel
theorem dX6_no_1 : decode cX6_no 1 = .ok (.dup, 1) := by decide +kernel
theorem dX6_no_2 : decode cX6_no 2 = .ok (.getfield 61, 3) := by decide +kernel
theorem dX6_no_5 : decode cX6_no 5 = .ok (.iconst 1, 1) := by decide +kernel
theorem dX6_no_6 : decode cX6_no 6 = .ok (.iadd, 1) := by decide +kernel
theorem dX6_no_7 : decode cX6_no 7 = .ok (.putfield 61, 3) := by decide +kernel
theorem dX6_no_10 : decode cX6_no 10 = .ok (.bipush (-3), 2) := by decide +kernel
theorem dX6_no_12 : decode cX6_no 12 = .ok (.ireturn, 1) := by decide +kernel
theorem dX6_full_0 : decode cX6_full 0 = .ok (.aload_n 0, 1) := by decide +kernel
theorem dX6_full_1 : decode cX6_full 1 = .ok (.dup, 1) := by decide +kernel
theorem dX6_full_2 : decode cX6_full 2 = .ok (.getfield 64, 3) := by decide +kernel
theorem dX6_full_5 : decode cX6_full 5 = .ok (.iconst 1, 1) := by decide +kernel
theorem dX6_full_6 : decode cX6_full 6 = .ok (.iadd, 1) := by decide +kernel
theorem dX6_full_7 : decode cX6_full 7 = .ok (.putfield 64, 3) := by decide +kernel
theorem dX6_full_10 : decode cX6_full 10 = .ok (.bipush (-4), 2) := by decide +kernel
theorem dX6_full_12 : decode cX6_full 12 = .ok (.ireturn, 1) := by decide +kernel
theorem dX6_isBidder_0 : decode cX6_isBidder 0 = .ok (.iload_n 1, 1) := by decide +kernel
theorem dX6_isBidder_1 : decode cX6_isBidder 1 = .ok (.ifCond .lt 18, 3) := by decide +kernel
theorem dX6_isBidder_4 : decode cX6_isBidder 4 = .ok (.iload_n 1, 1) := by decide +kernel
theorem dX6_isBidder_5 : decode cX6_isBidder 5 = .ok (.aload_n 0, 1) := by decide +kernel
theorem dX6_isBidder_6 : decode cX6_isBidder 6 = .ok (.getfield 12, 3) := by decide +kernel
theorem dX6_isBidder_9 : decode cX6_isBidder 9 = .ok (.getfield 75, 3) := by decide +kernel
theorem dX6_isBidder_12 : decode cX6_isBidder 12 = .ok (.if_icmp .ge 7, 3) := by decide +kernel
theorem dX6_isBidder_15 : decode cX6_isBidder 15 = .ok (.iconst 1, 1) := by decide +kernel
theorem dX6_isBidder_16 : decode cX6_isBidder 16 = .ok (.goto 4, 3) := by decide +kernel
theorem dX6_isBidder_19 : decode cX6_isBidder 19 = .ok (.iconst 0, 1) := by decide +kernel
theorem dX6_isBidder_20 : decode cX6_isBidder 20 = .ok (.ireturn, 1) := by decide +kernel
theorem dX6_isYard_0 : decode cX6_isYard 0 = .ok (.iload_n 0, 1) := by decide +kernel
theorem dX6_isYard_1 : decode cX6_isYard 1 = .ok (.ifCond .lt 13, 3) := by decide +kernel
theorem dX6_isYard_4 : decode cX6_isYard 4 = .ok (.iload_n 0, 1) := by decide +kernel
theorem dX6_isYard_5 : decode cX6_isYard 5 = .ok (.bipush 8, 2) := by decide +kernel
theorem dX6_isYard_7 : decode cX6_isYard 7 = .ok (.if_icmp .ge 7, 3) := by decide +kernel
theorem dX6_isYard_10 : decode cX6_isYard 10 = .ok (.iconst 1, 1) := by decide +kernel
theorem dX6_isYard_11 : decode cX6_isYard 11 = .ok (.goto 4, 3) := by decide +kernel
theorem dX6_isYard_14 : decode cX6_isYard 14 = .ok (.iconst 0, 1) := by decide +kernel
theorem dX6_isYard_15 : decode cX6_isYard 15 = .ok (.ireturn, 1) := by decide +kernel
theorem dX6_isTrack_0 : decode cX6_isTrack 0 = .ok (.iload_n 0, 1) := by decide +kernel
theorem dX6_isTrack_1 : decode cX6_isTrack 1 = .ok (.invokestatic 91, 3) := by decide +kernel
theorem dX6_isTrack_4 : decode cX6_isTrack 4 = .ok (.ifCond .eq 17, 3) := by decide +kernel
theorem dX6_isTrack_7 : decode cX6_isTrack 7 = .ok (.iload_n 1, 1) := by decide +kernel
theorem dX6_isTrack_8 : decode cX6_isTrack 8 = .ok (.sipush 240, 3) := by decide +kernel
theorem dX6_isTrack_11 : decode cX6_isTrack 11 = .ok (.invokestatic 95, 3) := by decide +kernel
theorem dX6_isTrack_14 : decode cX6_isTrack 14 = .ok (.ifCond .eq 7, 3) := by decide +kernel
theorem dX6_isTrack_17 : decode cX6_isTrack 17 = .ok (.iconst 1, 1) := by decide +kernel
theorem dX6_isTrack_18 : decode cX6_isTrack 18 = .ok (.goto 4, 3) := by decide +kernel
theorem dX6_isTrack_21 : decode cX6_isTrack 21 = .ok (.iconst 0, 1) := by decide +kernel
theorem dX6_isTrack_22 : decode cX6_isTrack 22 = .ok (.ireturn, 1) := by decide +kernel
theorem dX6_within_0 : decode cX6_within 0 = .ok (.iload_n 0, 1) := by decide +kernel
theorem dX6_within_1 : decode cX6_within 1 = .ok (.ifCond .lt 12, 3) := by decide +kernel
theorem dX6_within_4 : decode cX6_within 4 = .ok (.iload_n 0, 1) := by decide +kernel
theorem dX6_within_5 : decode cX6_within 5 = .ok (.iload_n 1, 1) := by decide +kernel
theorem dX6_within_6 : decode cX6_within 6 = .ok (.if_icmp .gt 7, 3) := by decide +kernel
theorem dX6_within_9 : decode cX6_within 9 = .ok (.iconst 1, 1) := by decide +kernel
theorem dX6_within_10 : decode cX6_within 10 = .ok (.goto 4, 3) := by decide +kernel
theorem dX6_within_13 : decode cX6_within 13 = .ok (.iconst 0, 1) := by decide +kernel
theorem dX6_within_14 : decode cX6_within 14 = .ok (.ireturn, 1) := by decide +kernel
theorem dX6_darkFrom_0 : decode cX6_darkFrom 0 = .ok (.iconst 0, 1) := by decide +kernel
theorem dX6_darkFrom_1 : decode cX6_darkFrom 1 = .ok (.iload_n 1, 1) := by decide +kernel
theorem dX6_darkFrom_2 : decode cX6_darkFrom 2 = .ok (.bipush 9, 2) := by decide +kernel
theorem dX6_darkFrom_4 : decode cX6_darkFrom 4 = .ok (.iload_n 2, 1) := by decide +kernel
theorem dX6_darkFrom_5 : decode cX6_darkFrom 5 = .ok (.iload_n 0, 1) := by decide +kernel
theorem dX6_darkFrom_6 : decode cX6_darkFrom 6 = .ok (.isub, 1) := by decide +kernel
theorem dX6_darkFrom_7 : decode cX6_darkFrom 7 = .ok (.invokestatic 253, 3) := by decide +kernel
theorem dX6_darkFrom_10 : decode cX6_darkFrom 10 = .ok (.imul, 1) := by decide +kernel
theorem dX6_darkFrom_11 : decode cX6_darkFrom 11 = .ok (.isub, 1) := by decide +kernel
theorem dX6_darkFrom_12 : decode cX6_darkFrom 12 = .ok (.invokestatic 258, 3) := by decide +kernel
theorem dX6_darkFrom_15 : decode cX6_darkFrom 15 = .ok (.ireturn, 1) := by decide +kernel
theorem dX6_darkOver_0 : decode cX6_darkOver 0 = .ok (.iconst 0, 1) := by decide +kernel
theorem dX6_darkOver_1 : decode cX6_darkOver 1 = .ok (.istore_n 3, 1) := by decide +kernel
theorem dX6_darkOver_2 : decode cX6_darkOver 2 = .ok (.iconst 0, 1) := by decide +kernel
theorem dX6_darkOver_3 : decode cX6_darkOver 3 = .ok (.istore 4, 2) := by decide +kernel
theorem dX6_darkOver_5 : decode cX6_darkOver 5 = .ok (.iload 4, 2) := by decide +kernel
theorem dX6_darkOver_7 : decode cX6_darkOver 7 = .ok (.bipush 8, 2) := by decide +kernel
theorem dX6_darkOver_9 : decode cX6_darkOver 9 = .ok (.if_icmp .ge 29, 3) := by decide +kernel
theorem dX6_darkOver_12 : decode cX6_darkOver 12 = .ok (.iload_n 0, 1) := by decide +kernel
theorem dX6_darkOver_13 : decode cX6_darkOver 13 = .ok (.iload 4, 2) := by decide +kernel
theorem dX6_darkOver_15 : decode cX6_darkOver 15 = .ok (.ishr, 1) := by decide +kernel
theorem dX6_darkOver_16 : decode cX6_darkOver 16 = .ok (.iconst 1, 1) := by decide +kernel
theorem dX6_darkOver_17 : decode cX6_darkOver 17 = .ok (.iand, 1) := by decide +kernel
theorem dX6_darkOver_18 : decode cX6_darkOver 18 = .ok (.iconst 1, 1) := by decide +kernel
theorem dX6_darkOver_19 : decode cX6_darkOver 19 = .ok (.if_icmp .ne 13, 3) := by decide +kernel
theorem dX6_darkOver_22 : decode cX6_darkOver 22 = .ok (.iload_n 3, 1) := by decide +kernel
theorem dX6_darkOver_23 : decode cX6_darkOver 23 = .ok (.iload_n 1, 1) := by decide +kernel
theorem dX6_darkOver_24 : decode cX6_darkOver 24 = .ok (.iload_n 2, 1) := by decide +kernel
theorem dX6_darkOver_25 : decode cX6_darkOver 25 = .ok (.iload 4, 2) := by decide +kernel
theorem dX6_darkOver_27 : decode cX6_darkOver 27 = .ok (.invokestatic 261, 3) := by decide +kernel
theorem dX6_darkOver_30 : decode cX6_darkOver 30 = .ok (.iadd, 1) := by decide +kernel
theorem dX6_darkOver_31 : decode cX6_darkOver 31 = .ok (.istore_n 3, 1) := by decide +kernel
theorem dX6_darkOver_32 : decode cX6_darkOver 32 = .ok (.iinc 4 1, 3) := by decide +kernel
theorem dX6_darkOver_35 : decode cX6_darkOver 35 = .ok (.goto (-30), 3) := by decide +kernel
theorem dX6_darkOver_38 : decode cX6_darkOver 38 = .ok (.iload_n 3, 1) := by decide +kernel
theorem dX6_darkOver_39 : decode cX6_darkOver 39 = .ok (.ireturn, 1) := by decide +kernel
theorem dX6_commonDivisor_0 : decode cX6_commonDivisor 0 = .ok (.iload_n 1, 1) := by decide +kernel
theorem dX6_commonDivisor_1 : decode cX6_commonDivisor 1 = .ok (.istore_n 2, 1) := by decide +kernel
theorem dX6_commonDivisor_2 : decode cX6_commonDivisor 2 = .ok (.iload_n 2, 1) := by decide +kernel
theorem dX6_commonDivisor_3 : decode cX6_commonDivisor 3 = .ok (.iconst 1, 1) := by decide +kernel
theorem dX6_commonDivisor_4 : decode cX6_commonDivisor 4 = .ok (.if_icmp .le 23, 3) := by decide +kernel
theorem dX6_commonDivisor_7 : decode cX6_commonDivisor 7 = .ok (.iload_n 0, 1) := by decide +kernel
theorem dX6_commonDivisor_8 : decode cX6_commonDivisor 8 = .ok (.iload_n 2, 1) := by decide +kernel
theorem dX6_commonDivisor_9 : decode cX6_commonDivisor 9 = .ok (.irem, 1) := by decide +kernel
theorem dX6_commonDivisor_10 : decode cX6_commonDivisor 10 = .ok (.ifCond .ne 11, 3) := by decide +kernel
theorem dX6_commonDivisor_13 : decode cX6_commonDivisor 13 = .ok (.iload_n 1, 1) := by decide +kernel
theorem dX6_commonDivisor_14 : decode cX6_commonDivisor 14 = .ok (.iload_n 2, 1) := by decide +kernel
theorem dX6_commonDivisor_15 : decode cX6_commonDivisor 15 = .ok (.irem, 1) := by decide +kernel
theorem dX6_commonDivisor_16 : decode cX6_commonDivisor 16 = .ok (.ifCond .ne 5, 3) := by decide +kernel
theorem dX6_commonDivisor_19 : decode cX6_commonDivisor 19 = .ok (.iload_n 2, 1) := by decide +kernel
theorem dX6_commonDivisor_20 : decode cX6_commonDivisor 20 = .ok (.ireturn, 1) := by decide +kernel
theorem dX6_commonDivisor_21 : decode cX6_commonDivisor 21 = .ok (.iinc 2 (-1), 3) := by decide +kernel
theorem dX6_commonDivisor_24 : decode cX6_commonDivisor 24 = .ok (.goto (-22), 3) := by decide +kernel
theorem dX6_commonDivisor_27 : decode cX6_commonDivisor 27 = .ok (.iconst 1, 1) := by decide +kernel
theorem dX6_commonDivisor_28 : decode cX6_commonDivisor 28 = .ok (.ireturn, 1) := by decide +kernel
