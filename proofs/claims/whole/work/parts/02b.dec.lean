/-! the instructions, decoded; printed by wip/gen/dec.py -/
theorem dX4_init_0 : decode cX4_init 0 = .ok (.aload_n 0, 1) := by decide +kernel
theorem dX4_init_1 : decode cX4_init 1 = .ok (.invokespecial 5, 3) := by decide +kernel
theorem dX4_init_4 : decode cX4_init 4 = .ok (.aload_n 0, 1) := by decide +kernel
theorem dX4_init_5 : decode cX4_init 5 = .ok (.sipush 352, 3) := by decide +kernel
theorem dX4_init_8 : decode cX4_init 8 = .ok (.newarray .int, 2) := by decide +kernel
theorem dX4_init_10 : decode cX4_init 10 = .ok (.putfield 11, 3) := by decide +kernel
theorem dX4_init_13 : decode cX4_init 13 = .ok (.aload_n 0, 1) := by decide +kernel
theorem dX4_init_14 : decode cX4_init 14 = .ok (.iconst 5, 1) := by decide +kernel
theorem dX4_init_15 : decode cX4_init 15 = .ok (.newarray .int, 2) := by decide +kernel
theorem dX4_init_17 : decode cX4_init 17 = .ok (.putfield 15, 3) := by decide +kernel
theorem dX4_init_20 : decode cX4_init 20 = .ok (.aload_n 0, 1) := by decide +kernel
theorem dX4_init_21 : decode cX4_init 21 = .ok (.iconst 5, 1) := by decide +kernel
theorem dX4_init_22 : decode cX4_init 22 = .ok (.newarray .int, 2) := by decide +kernel
theorem dX4_init_24 : decode cX4_init 24 = .ok (.putfield 18, 3) := by decide +kernel
theorem dX4_init_27 : decode cX4_init 27 = .ok (.aload_n 0, 1) := by decide +kernel
theorem dX4_init_28 : decode cX4_init 28 = .ok (.iconst 0, 1) := by decide +kernel
theorem dX4_init_29 : decode cX4_init 29 = .ok (.putfield 21, 3) := by decide +kernel
theorem dX4_init_32 : decode cX4_init 32 = .ok (.return_, 1) := by decide +kernel
theorem dX4_work_0 : decode cX4_work 0 = .ok (.iconst 0, 1) := by decide +kernel
theorem dX4_work_1 : decode cX4_work 1 = .ok (.istore_n 2, 1) := by decide +kernel
theorem dX4_work_2 : decode cX4_work 2 = .ok (.iload_n 2, 1) := by decide +kernel
theorem dX4_work_3 : decode cX4_work 3 = .ok (.sipush 352, 3) := by decide +kernel
theorem dX4_work_6 : decode cX4_work 6 = .ok (.if_icmp .ge 17, 3) := by decide +kernel
theorem dX4_work_9 : decode cX4_work 9 = .ok (.aload_n 0, 1) := by decide +kernel
theorem dX4_work_10 : decode cX4_work 10 = .ok (.getfield 11, 3) := by decide +kernel
theorem dX4_work_13 : decode cX4_work 13 = .ok (.iload_n 2, 1) := by decide +kernel
theorem dX4_work_14 : decode cX4_work 14 = .ok (.ldc 25, 2) := by decide +kernel
theorem dX4_work_16 : decode cX4_work 16 = .ok (.iastore, 1) := by decide +kernel
theorem dX4_work_17 : decode cX4_work 17 = .ok (.iinc 2 1, 3) := by decide +kernel
theorem dX4_work_20 : decode cX4_work 20 = .ok (.goto (-18), 3) := by decide +kernel
theorem dX4_work_23 : decode cX4_work 23 = .ok (.aload_n 0, 1) := by decide +kernel
theorem dX4_work_24 : decode cX4_work 24 = .ok (.getfield 11, 3) := by decide +kernel
theorem dX4_work_27 : decode cX4_work 27 = .ok (.iconst 0, 1) := by decide +kernel
theorem dX4_work_28 : decode cX4_work 28 = .ok (.iconst 0, 1) := by decide +kernel
theorem dX4_work_29 : decode cX4_work 29 = .ok (.iastore, 1) := by decide +kernel
theorem dX4_work_30 : decode cX4_work 30 = .ok (.iconst 1, 1) := by decide +kernel
theorem dX4_work_31 : decode cX4_work 31 = .ok (.aload_n 1, 1) := by decide +kernel
theorem dX4_work_32 : decode cX4_work 32 = .ok (.getfield 26, 3) := by decide +kernel
theorem dX4_work_35 : decode cX4_work 35 = .ok (.ishl, 1) := by decide +kernel
theorem dX4_work_36 : decode cX4_work 36 = .ok (.iconst 1, 1) := by decide +kernel
theorem dX4_work_37 : decode cX4_work 37 = .ok (.isub, 1) := by decide +kernel
theorem dX4_work_38 : decode cX4_work 38 = .ok (.istore_n 2, 1) := by decide +kernel
theorem dX4_work_39 : decode cX4_work 39 = .ok (.iconst 0, 1) := by decide +kernel
theorem dX4_work_40 : decode cX4_work 40 = .ok (.istore_n 3, 1) := by decide +kernel
theorem dX4_work_41 : decode cX4_work 41 = .ok (.iload_n 3, 1) := by decide +kernel
theorem dX4_work_42 : decode cX4_work 42 = .ok (.bipush 8, 2) := by decide +kernel
theorem dX4_work_44 : decode cX4_work 44 = .ok (.if_icmp .ge 39, 3) := by decide +kernel
theorem dX4_work_47 : decode cX4_work 47 = .ok (.aload_n 0, 1) := by decide +kernel
theorem dX4_work_48 : decode cX4_work 48 = .ok (.aload_n 1, 1) := by decide +kernel
theorem dX4_work_49 : decode cX4_work 49 = .ok (.iload_n 3, 1) := by decide +kernel
theorem dX4_work_50 : decode cX4_work 50 = .ok (.invokevirtual 31, 3) := by decide +kernel
theorem dX4_work_53 : decode cX4_work 53 = .ok (.iload_n 2, 1) := by decide +kernel
theorem dX4_work_54 : decode cX4_work 54 = .ok (.iconst 1, 1) := by decide +kernel
theorem dX4_work_55 : decode cX4_work 55 = .ok (.isub, 1) := by decide +kernel
theorem dX4_work_56 : decode cX4_work 56 = .ok (.istore 4, 2) := by decide +kernel
theorem dX4_work_58 : decode cX4_work 58 = .ok (.iload 4, 2) := by decide +kernel
theorem dX4_work_60 : decode cX4_work 60 = .ok (.ifCond .lt 17, 3) := by decide +kernel
theorem dX4_work_63 : decode cX4_work 63 = .ok (.aload_n 0, 1) := by decide +kernel
theorem dX4_work_64 : decode cX4_work 64 = .ok (.aload_n 1, 1) := by decide +kernel
theorem dX4_work_65 : decode cX4_work 65 = .ok (.iload_n 3, 1) := by decide +kernel
theorem dX4_work_66 : decode cX4_work 66 = .ok (.iload 4, 2) := by decide +kernel
theorem dX4_work_68 : decode cX4_work 68 = .ok (.invokevirtual 35, 3) := by decide +kernel
theorem dX4_work_71 : decode cX4_work 71 = .ok (.iinc 4 (-1), 3) := by decide +kernel
theorem dX4_work_74 : decode cX4_work 74 = .ok (.goto (-16), 3) := by decide +kernel
theorem dX4_work_77 : decode cX4_work 77 = .ok (.iinc 3 1, 3) := by decide +kernel
theorem dX4_work_80 : decode cX4_work 80 = .ok (.goto (-39), 3) := by decide +kernel
theorem dX4_work_83 : decode cX4_work 83 = .ok (.aload_n 0, 1) := by decide +kernel
theorem dX4_work_84 : decode cX4_work 84 = .ok (.ldc 25, 2) := by decide +kernel
theorem dX4_work_86 : decode cX4_work 86 = .ok (.putfield 21, 3) := by decide +kernel
theorem dX4_work_89 : decode cX4_work 89 = .ok (.iconst 0, 1) := by decide +kernel
theorem dX4_work_90 : decode cX4_work 90 = .ok (.istore_n 3, 1) := by decide +kernel
theorem dX4_work_91 : decode cX4_work 91 = .ok (.iload_n 3, 1) := by decide +kernel
theorem dX4_work_92 : decode cX4_work 92 = .ok (.bipush 11, 2) := by decide +kernel
theorem dX4_work_94 : decode cX4_work 94 = .ok (.if_icmp .ge 31, 3) := by decide +kernel
theorem dX4_work_97 : decode cX4_work 97 = .ok (.aload_n 0, 1) := by decide +kernel
theorem dX4_work_98 : decode cX4_work 98 = .ok (.aload_n 0, 1) := by decide +kernel
theorem dX4_work_99 : decode cX4_work 99 = .ok (.getfield 21, 3) := by decide +kernel
theorem dX4_work_102 : decode cX4_work 102 = .ok (.aload_n 0, 1) := by decide +kernel
theorem dX4_work_103 : decode cX4_work 103 = .ok (.getfield 11, 3) := by decide +kernel
theorem dX4_work_106 : decode cX4_work 106 = .ok (.iload_n 2, 1) := by decide +kernel
theorem dX4_work_107 : decode cX4_work 107 = .ok (.bipush 11, 2) := by decide +kernel
theorem dX4_work_109 : decode cX4_work 109 = .ok (.imul, 1) := by decide +kernel
theorem dX4_work_110 : decode cX4_work 110 = .ok (.iload_n 3, 1) := by decide +kernel
theorem dX4_work_111 : decode cX4_work 111 = .ok (.iadd, 1) := by decide +kernel
theorem dX4_work_112 : decode cX4_work 112 = .ok (.iaload, 1) := by decide +kernel
theorem dX4_work_113 : decode cX4_work 113 = .ok (.invokestatic 39, 3) := by decide +kernel
theorem dX4_work_116 : decode cX4_work 116 = .ok (.putfield 21, 3) := by decide +kernel
theorem dX4_work_119 : decode cX4_work 119 = .ok (.iinc 3 1, 3) := by decide +kernel
theorem dX4_work_122 : decode cX4_work 122 = .ok (.goto (-31), 3) := by decide +kernel
theorem dX4_work_125 : decode cX4_work 125 = .ok (.return_, 1) := by decide +kernel
theorem dX4_total_0 : decode cX4_total 0 = .ok (.aload_n 0, 1) := by decide +kernel
theorem dX4_total_1 : decode cX4_total 1 = .ok (.getfield 21, 3) := by decide +kernel
theorem dX4_total_4 : decode cX4_total 4 = .ok (.ldc 45, 2) := by decide +kernel
theorem dX4_total_6 : decode cX4_total 6 = .ok (.iadd, 1) := by decide +kernel
theorem dX4_total_7 : decode cX4_total 7 = .ok (.iconst 1, 1) := by decide +kernel
theorem dX4_total_8 : decode cX4_total 8 = .ok (.isub, 1) := by decide +kernel
theorem dX4_total_9 : decode cX4_total 9 = .ok (.bipush 15, 2) := by decide +kernel
theorem dX4_total_11 : decode cX4_total 11 = .ok (.ishr, 1) := by decide +kernel
theorem dX4_total_12 : decode cX4_total 12 = .ok (.ireturn, 1) := by decide +kernel
theorem dX4_seatFor_0 : decode cX4_seatFor 0 = .ok (.aload_n 0, 1) := by decide +kernel
theorem dX4_seatFor_1 : decode cX4_seatFor 1 = .ok (.invokevirtual 46, 3) := by decide +kernel
theorem dX4_seatFor_4 : decode cX4_seatFor 4 = .ok (.bipush 15, 2) := by decide +kernel
theorem dX4_seatFor_6 : decode cX4_seatFor 6 = .ok (.ishl, 1) := by decide +kernel
theorem dX4_seatFor_7 : decode cX4_seatFor 7 = .ok (.aload_n 0, 1) := by decide +kernel
theorem dX4_seatFor_8 : decode cX4_seatFor 8 = .ok (.getfield 21, 3) := by decide +kernel
theorem dX4_seatFor_11 : decode cX4_seatFor 11 = .ok (.isub, 1) := by decide +kernel
theorem dX4_seatFor_12 : decode cX4_seatFor 12 = .ok (.istore_n 2, 1) := by decide +kernel
theorem dX4_seatFor_13 : decode cX4_seatFor 13 = .ok (.iload_n 2, 1) := by decide +kernel
theorem dX4_seatFor_14 : decode cX4_seatFor 14 = .ok (.iload_n 1, 1) := by decide +kernel
theorem dX4_seatFor_15 : decode cX4_seatFor 15 = .ok (.invokestatic 50, 3) := by decide +kernel
theorem dX4_seatFor_18 : decode cX4_seatFor 18 = .ok (.ishr, 1) := by decide +kernel
theorem dX4_seatFor_19 : decode cX4_seatFor 19 = .ok (.bipush 7, 2) := by decide +kernel
theorem dX4_seatFor_21 : decode cX4_seatFor 21 = .ok (.iand, 1) := by decide +kernel
theorem dX4_seatFor_22 : decode cX4_seatFor 22 = .ok (.ireturn, 1) := by decide +kernel
theorem dX4_lookAt_0 : decode cX4_lookAt 0 = .ok (.aload_n 1, 1) := by decide +kernel
theorem dX4_lookAt_1 : decode cX4_lookAt 1 = .ok (.iload_n 2, 1) := by decide +kernel
theorem dX4_lookAt_2 : decode cX4_lookAt 2 = .ok (.invokevirtual 54, 3) := by decide +kernel
theorem dX4_lookAt_5 : decode cX4_lookAt 5 = .ok (.istore_n 3, 1) := by decide +kernel
theorem dX4_lookAt_6 : decode cX4_lookAt 6 = .ok (.iconst 0, 1) := by decide +kernel
theorem dX4_lookAt_7 : decode cX4_lookAt 7 = .ok (.istore 4, 2) := by decide +kernel
theorem dX4_lookAt_9 : decode cX4_lookAt 9 = .ok (.iload 4, 2) := by decide +kernel
theorem dX4_lookAt_11 : decode cX4_lookAt 11 = .ok (.aload_n 1, 1) := by decide +kernel
theorem dX4_lookAt_12 : decode cX4_lookAt 12 = .ok (.getfield 26, 3) := by decide +kernel
theorem dX4_lookAt_15 : decode cX4_lookAt 15 = .ok (.if_icmp .ge 59, 3) := by decide +kernel
theorem dX4_lookAt_18 : decode cX4_lookAt 18 = .ok (.aload_n 0, 1) := by decide +kernel
theorem dX4_lookAt_19 : decode cX4_lookAt 19 = .ok (.getfield 15, 3) := by decide +kernel
theorem dX4_lookAt_22 : decode cX4_lookAt 22 = .ok (.iload 4, 2) := by decide +kernel
theorem dX4_lookAt_24 : decode cX4_lookAt 24 = .ok (.aload_n 1, 1) := by decide +kernel
theorem dX4_lookAt_25 : decode cX4_lookAt 25 = .ok (.getfield 57, 3) := by decide +kernel
theorem dX4_lookAt_28 : decode cX4_lookAt 28 = .ok (.iload 4, 2) := by decide +kernel
theorem dX4_lookAt_30 : decode cX4_lookAt 30 = .ok (.iaload, 1) := by decide +kernel
theorem dX4_lookAt_31 : decode cX4_lookAt 31 = .ok (.iload_n 3, 1) := by decide +kernel
theorem dX4_lookAt_32 : decode cX4_lookAt 32 = .ok (.aload_n 1, 1) := by decide +kernel
theorem dX4_lookAt_33 : decode cX4_lookAt 33 = .ok (.getfield 60, 3) := by decide +kernel
theorem dX4_lookAt_36 : decode cX4_lookAt 36 = .ok (.iload_n 2, 1) := by decide +kernel
theorem dX4_lookAt_37 : decode cX4_lookAt 37 = .ok (.iaload, 1) := by decide +kernel
theorem dX4_lookAt_38 : decode cX4_lookAt 38 = .ok (.invokestatic 63, 3) := by decide +kernel
theorem dX4_lookAt_41 : decode cX4_lookAt 41 = .ok (.iastore, 1) := by decide +kernel
theorem dX4_lookAt_42 : decode cX4_lookAt 42 = .ok (.aload_n 0, 1) := by decide +kernel
theorem dX4_lookAt_43 : decode cX4_lookAt 43 = .ok (.getfield 18, 3) := by decide +kernel
theorem dX4_lookAt_46 : decode cX4_lookAt 46 = .ok (.iload 4, 2) := by decide +kernel
theorem dX4_lookAt_48 : decode cX4_lookAt 48 = .ok (.bipush 10, 2) := by decide +kernel
theorem dX4_lookAt_50 : decode cX4_lookAt 50 = .ok (.aload_n 1, 1) := by decide +kernel
theorem dX4_lookAt_51 : decode cX4_lookAt 51 = .ok (.getfield 60, 3) := by decide +kernel
theorem dX4_lookAt_54 : decode cX4_lookAt 54 = .ok (.iload_n 2, 1) := by decide +kernel
theorem dX4_lookAt_55 : decode cX4_lookAt 55 = .ok (.iaload, 1) := by decide +kernel
theorem dX4_lookAt_56 : decode cX4_lookAt 56 = .ok (.aload_n 1, 1) := by decide +kernel
theorem dX4_lookAt_57 : decode cX4_lookAt 57 = .ok (.getfield 69, 3) := by decide +kernel
theorem dX4_lookAt_60 : decode cX4_lookAt 60 = .ok (.iload 4, 2) := by decide +kernel
theorem dX4_lookAt_62 : decode cX4_lookAt 62 = .ok (.iaload, 1) := by decide +kernel
theorem dX4_lookAt_63 : decode cX4_lookAt 63 = .ok (.iadd, 1) := by decide +kernel
theorem dX4_lookAt_64 : decode cX4_lookAt 64 = .ok (.invokestatic 72, 3) := by decide +kernel
theorem dX4_lookAt_67 : decode cX4_lookAt 67 = .ok (.iastore, 1) := by decide +kernel
theorem dX4_lookAt_68 : decode cX4_lookAt 68 = .ok (.iinc 4 1, 3) := by decide +kernel
theorem dX4_lookAt_71 : decode cX4_lookAt 71 = .ok (.goto (-62), 3) := by decide +kernel
theorem dX4_lookAt_74 : decode cX4_lookAt 74 = .ok (.return_, 1) := by decide +kernel
theorem dX4_spread_0 : decode cX4_spread 0 = .ok (.iconst 0, 1) := by decide +kernel
theorem dX4_spread_1 : decode cX4_spread 1 = .ok (.istore 4, 2) := by decide +kernel
theorem dX4_spread_3 : decode cX4_spread 3 = .ok (.iload 4, 2) := by decide +kernel
theorem dX4_spread_5 : decode cX4_spread 5 = .ok (.bipush 11, 2) := by decide +kernel
theorem dX4_spread_7 : decode cX4_spread 7 = .ok (.if_icmp .ge 150, 3) := by decide +kernel
theorem dX4_spread_10 : decode cX4_spread 10 = .ok (.aload_n 0, 1) := by decide +kernel
theorem dX4_spread_11 : decode cX4_spread 11 = .ok (.getfield 11, 3) := by decide +kernel
theorem dX4_spread_14 : decode cX4_spread 14 = .ok (.iload_n 3, 1) := by decide +kernel
theorem dX4_spread_15 : decode cX4_spread 15 = .ok (.bipush 11, 2) := by decide +kernel
theorem dX4_spread_17 : decode cX4_spread 17 = .ok (.imul, 1) := by decide +kernel
theorem dX4_spread_18 : decode cX4_spread 18 = .ok (.iload 4, 2) := by decide +kernel
theorem dX4_spread_20 : decode cX4_spread 20 = .ok (.iadd, 1) := by decide +kernel
theorem dX4_spread_21 : decode cX4_spread 21 = .ok (.iaload, 1) := by decide +kernel
theorem dX4_spread_22 : decode cX4_spread 22 = .ok (.istore 5, 2) := by decide +kernel
theorem dX4_spread_24 : decode cX4_spread 24 = .ok (.iload 5, 2) := by decide +kernel
theorem dX4_spread_26 : decode cX4_spread 26 = .ok (.ldc 25, 2) := by decide +kernel
theorem dX4_spread_28 : decode cX4_spread 28 = .ok (.if_icmp .eq 123, 3) := by decide +kernel
theorem dX4_spread_31 : decode cX4_spread 31 = .ok (.iload 4, 2) := by decide +kernel
theorem dX4_spread_33 : decode cX4_spread 33 = .ok (.aload_n 1, 1) := by decide +kernel
theorem dX4_spread_34 : decode cX4_spread 34 = .ok (.getfield 60, 3) := by decide +kernel
theorem dX4_spread_37 : decode cX4_spread 37 = .ok (.iload_n 2, 1) := by decide +kernel
theorem dX4_spread_38 : decode cX4_spread 38 = .ok (.iaload, 1) := by decide +kernel
theorem dX4_spread_39 : decode cX4_spread 39 = .ok (.if_icmp .gt 7, 3) := by decide +kernel
theorem dX4_spread_42 : decode cX4_spread 42 = .ok (.iconst 1, 1) := by decide +kernel
theorem dX4_spread_43 : decode cX4_spread 43 = .ok (.goto 4, 3) := by decide +kernel
theorem dX4_spread_46 : decode cX4_spread 46 = .ok (.iconst 0, 1) := by decide +kernel
theorem dX4_spread_47 : decode cX4_spread 47 = .ok (.istore 6, 2) := by decide +kernel
theorem dX4_spread_49 : decode cX4_spread 49 = .ok (.iconst 0, 1) := by decide +kernel
theorem dX4_spread_50 : decode cX4_spread 50 = .ok (.istore 7, 2) := by decide +kernel
theorem dX4_spread_52 : decode cX4_spread 52 = .ok (.iload 7, 2) := by decide +kernel
theorem dX4_spread_54 : decode cX4_spread 54 = .ok (.aload_n 1, 1) := by decide +kernel
theorem dX4_spread_55 : decode cX4_spread 55 = .ok (.getfield 26, 3) := by decide +kernel
theorem dX4_spread_58 : decode cX4_spread 58 = .ok (.if_icmp .ge 93, 3) := by decide +kernel
theorem dX4_spread_61 : decode cX4_spread 61 = .ok (.iload_n 3, 1) := by decide +kernel
theorem dX4_spread_62 : decode cX4_spread 62 = .ok (.iload 7, 2) := by decide +kernel
theorem dX4_spread_64 : decode cX4_spread 64 = .ok (.ishr, 1) := by decide +kernel
theorem dX4_spread_65 : decode cX4_spread 65 = .ok (.iconst 1, 1) := by decide +kernel
theorem dX4_spread_66 : decode cX4_spread 66 = .ok (.iand, 1) := by decide +kernel
theorem dX4_spread_67 : decode cX4_spread 67 = .ok (.ifCond .ne 78, 3) := by decide +kernel
theorem dX4_spread_70 : decode cX4_spread 70 = .ok (.iload 6, 2) := by decide +kernel
theorem dX4_spread_72 : decode cX4_spread 72 = .ok (.ifCond .eq 16, 3) := by decide +kernel
theorem dX4_spread_75 : decode cX4_spread 75 = .ok (.aload_n 0, 1) := by decide +kernel
theorem dX4_spread_76 : decode cX4_spread 76 = .ok (.getfield 15, 3) := by decide +kernel
theorem dX4_spread_79 : decode cX4_spread 79 = .ok (.iload 7, 2) := by decide +kernel
theorem dX4_spread_81 : decode cX4_spread 81 = .ok (.iaload, 1) := by decide +kernel
theorem dX4_spread_82 : decode cX4_spread 82 = .ok (.bipush 15, 2) := by decide +kernel
theorem dX4_spread_84 : decode cX4_spread 84 = .ok (.ishl, 1) := by decide +kernel
theorem dX4_spread_85 : decode cX4_spread 85 = .ok (.goto 4, 3) := by decide +kernel
theorem dX4_spread_88 : decode cX4_spread 88 = .ok (.iconst 0, 1) := by decide +kernel
theorem dX4_spread_89 : decode cX4_spread 89 = .ok (.istore 8, 2) := by decide +kernel
theorem dX4_spread_91 : decode cX4_spread 91 = .ok (.iload_n 3, 1) := by decide +kernel
theorem dX4_spread_92 : decode cX4_spread 92 = .ok (.iconst 1, 1) := by decide +kernel
theorem dX4_spread_93 : decode cX4_spread 93 = .ok (.iload 7, 2) := by decide +kernel
theorem dX4_spread_95 : decode cX4_spread 95 = .ok (.ishl, 1) := by decide +kernel
theorem dX4_spread_96 : decode cX4_spread 96 = .ok (.ior, 1) := by decide +kernel
theorem dX4_spread_97 : decode cX4_spread 97 = .ok (.bipush 11, 2) := by decide +kernel
theorem dX4_spread_99 : decode cX4_spread 99 = .ok (.imul, 1) := by decide +kernel
theorem dX4_spread_100 : decode cX4_spread 100 = .ok (.iload 4, 2) := by decide +kernel
theorem dX4_spread_102 : decode cX4_spread 102 = .ok (.aload_n 0, 1) := by decide +kernel
theorem dX4_spread_103 : decode cX4_spread 103 = .ok (.getfield 18, 3) := by decide +kernel
theorem dX4_spread_106 : decode cX4_spread 106 = .ok (.iload 7, 2) := by decide +kernel
theorem dX4_spread_108 : decode cX4_spread 108 = .ok (.iaload, 1) := by decide +kernel
theorem dX4_spread_109 : decode cX4_spread 109 = .ok (.invokestatic 39, 3) := by decide +kernel
theorem dX4_spread_112 : decode cX4_spread 112 = .ok (.iadd, 1) := by decide +kernel
theorem dX4_spread_113 : decode cX4_spread 113 = .ok (.istore 9, 2) := by decide +kernel
theorem dX4_spread_115 : decode cX4_spread 115 = .ok (.aload_n 0, 1) := by decide +kernel
theorem dX4_spread_116 : decode cX4_spread 116 = .ok (.getfield 11, 3) := by decide +kernel
theorem dX4_spread_119 : decode cX4_spread 119 = .ok (.iload 9, 2) := by decide +kernel
theorem dX4_spread_121 : decode cX4_spread 121 = .ok (.aload_n 0, 1) := by decide +kernel
theorem dX4_spread_122 : decode cX4_spread 122 = .ok (.getfield 11, 3) := by decide +kernel
theorem dX4_spread_125 : decode cX4_spread 125 = .ok (.iload 9, 2) := by decide +kernel
theorem dX4_spread_127 : decode cX4_spread 127 = .ok (.iaload, 1) := by decide +kernel
theorem dX4_spread_128 : decode cX4_spread 128 = .ok (.iload 5, 2) := by decide +kernel
theorem dX4_spread_130 : decode cX4_spread 130 = .ok (.iload 8, 2) := by decide +kernel
theorem dX4_spread_132 : decode cX4_spread 132 = .ok (.iadd, 1) := by decide +kernel
theorem dX4_spread_133 : decode cX4_spread 133 = .ok (.iload_n 2, 1) := by decide +kernel
theorem dX4_spread_134 : decode cX4_spread 134 = .ok (.iload 7, 2) := by decide +kernel
theorem dX4_spread_136 : decode cX4_spread 136 = .ok (.invokestatic 50, 3) := by decide +kernel
theorem dX4_spread_139 : decode cX4_spread 139 = .ok (.ishl, 1) := by decide +kernel
theorem dX4_spread_140 : decode cX4_spread 140 = .ok (.isub, 1) := by decide +kernel
theorem dX4_spread_141 : decode cX4_spread 141 = .ok (.invokestatic 39, 3) := by decide +kernel
theorem dX4_spread_144 : decode cX4_spread 144 = .ok (.iastore, 1) := by decide +kernel
theorem dX4_spread_145 : decode cX4_spread 145 = .ok (.iinc 7 1, 3) := by decide +kernel
theorem dX4_spread_148 : decode cX4_spread 148 = .ok (.goto (-96), 3) := by decide +kernel
theorem dX4_spread_151 : decode cX4_spread 151 = .ok (.iinc 4 1, 3) := by decide +kernel
theorem dX4_spread_154 : decode cX4_spread 154 = .ok (.goto (-151), 3) := by decide +kernel
theorem dX4_spread_157 : decode cX4_spread 157 = .ok (.return_, 1) := by decide +kernel
theorem dX4_seatShift_0 : decode cX4_seatShift 0 = .ok (.iconst 3, 1) := by decide +kernel
theorem dX4_seatShift_1 : decode cX4_seatShift 1 = .ok (.iconst 4, 1) := by decide +kernel
theorem dX4_seatShift_2 : decode cX4_seatShift 2 = .ok (.iload_n 0, 1) := by decide +kernel
theorem dX4_seatShift_3 : decode cX4_seatShift 3 = .ok (.isub, 1) := by decide +kernel
theorem dX4_seatShift_4 : decode cX4_seatShift 4 = .ok (.imul, 1) := by decide +kernel
theorem dX4_seatShift_5 : decode cX4_seatShift 5 = .ok (.ireturn, 1) := by decide +kernel
theorem dX5_init_0 : decode cX5_init 0 = .ok (.aload_n 0, 1) := by decide +kernel
theorem dX5_init_1 : decode cX5_init 1 = .ok (.invokespecial 3, 3) := by decide +kernel
theorem dX5_init_4 : decode cX5_init 4 = .ok (.aload_n 0, 1) := by decide +kernel
theorem dX5_init_5 : decode cX5_init 5 = .ok (.sipush 150, 3) := by decide +kernel
theorem dX5_init_8 : decode cX5_init 8 = .ok (.newarray .byte, 2) := by decide +kernel
theorem dX5_init_10 : decode cX5_init 10 = .ok (.putfield 9, 3) := by decide +kernel
theorem dX5_init_13 : decode cX5_init 13 = .ok (.aload_n 0, 1) := by decide +kernel
theorem dX5_init_14 : decode cX5_init 14 = .ok (.iconst 0, 1) := by decide +kernel
theorem dX5_init_15 : decode cX5_init 15 = .ok (.putfield 15, 3) := by decide +kernel
theorem dX5_init_18 : decode cX5_init 18 = .ok (.aload_n 0, 1) := by decide +kernel
theorem dX5_init_19 : decode cX5_init 19 = .ok (.iconst 0, 1) := by decide +kernel
theorem dX5_init_20 : decode cX5_init 20 = .ok (.putfield 19, 3) := by decide +kernel
theorem dX5_init_23 : decode cX5_init 23 = .ok (.aload_n 0, 1) := by decide +kernel
theorem dX5_init_24 : decode cX5_init 24 = .ok (.iconst 0, 1) := by decide +kernel
theorem dX5_init_25 : decode cX5_init 25 = .ok (.putfield 22, 3) := by decide +kernel
theorem dX5_init_28 : decode cX5_init 28 = .ok (.aload_n 0, 1) := by decide +kernel
theorem dX5_init_29 : decode cX5_init 29 = .ok (.iconst 0, 1) := by decide +kernel
theorem dX5_init_30 : decode cX5_init 30 = .ok (.putfield 25, 3) := by decide +kernel
theorem dX5_init_33 : decode cX5_init 33 = .ok (.aload_n 0, 1) := by decide +kernel
theorem dX5_init_34 : decode cX5_init 34 = .ok (.iconst 0, 1) := by decide +kernel
theorem dX5_init_35 : decode cX5_init 35 = .ok (.putfield 28, 3) := by decide +kernel
theorem dX5_init_38 : decode cX5_init 38 = .ok (.return_, 1) := by decide +kernel
theorem dX5_readInto_0 : decode cX5_readInto 0 = .ok (.aload_n 1, 1) := by decide +kernel
theorem dX5_readInto_1 : decode cX5_readInto 1 = .ok (.iconst 3, 1) := by decide +kernel
theorem dX5_readInto_2 : decode cX5_readInto 2 = .ok (.sipush 240, 3) := by decide +kernel
theorem dX5_readInto_5 : decode cX5_readInto 5 = .ok (.invokevirtual 31, 3) := by decide +kernel
theorem dX5_readInto_8 : decode cX5_readInto 8 = .ok (.aload_n 0, 1) := by decide +kernel
theorem dX5_readInto_9 : decode cX5_readInto 9 = .ok (.iconst 0, 1) := by decide +kernel
theorem dX5_readInto_10 : decode cX5_readInto 10 = .ok (.putfield 19, 3) := by decide +kernel
theorem dX5_readInto_13 : decode cX5_readInto 13 = .ok (.aload_n 0, 1) := by decide +kernel
theorem dX5_readInto_14 : decode cX5_readInto 14 = .ok (.invokevirtual 37, 3) := by decide +kernel
theorem dX5_readInto_17 : decode cX5_readInto 17 = .ok (.iconst 0, 1) := by decide +kernel
theorem dX5_readInto_18 : decode cX5_readInto 18 = .ok (.istore_n 2, 1) := by decide +kernel
theorem dX5_readInto_19 : decode cX5_readInto 19 = .ok (.iload_n 2, 1) := by decide +kernel
theorem dX5_readInto_20 : decode cX5_readInto 20 = .ok (.sipush 150, 3) := by decide +kernel
theorem dX5_readInto_23 : decode cX5_readInto 23 = .ok (.if_icmp .ge 49, 3) := by decide +kernel
theorem dX5_readInto_26 : decode cX5_readInto 26 = .ok (.iload_n 2, 1) := by decide +kernel
theorem dX5_readInto_27 : decode cX5_readInto 27 = .ok (.ifCond .eq 10, 3) := by decide +kernel
theorem dX5_readInto_30 : decode cX5_readInto 30 = .ok (.aload_n 0, 1) := by decide +kernel
theorem dX5_readInto_31 : decode cX5_readInto 31 = .ok (.getfield 22, 3) := by decide +kernel
theorem dX5_readInto_34 : decode cX5_readInto 34 = .ok (.ifCond .eq 38, 3) := by decide +kernel
theorem dX5_readInto_37 : decode cX5_readInto 37 = .ok (.aload_n 0, 1) := by decide +kernel
theorem dX5_readInto_38 : decode cX5_readInto 38 = .ok (.aload_n 1, 1) := by decide +kernel
theorem dX5_readInto_39 : decode cX5_readInto 39 = .ok (.iload_n 2, 1) := by decide +kernel
theorem dX5_readInto_40 : decode cX5_readInto 40 = .ok (.ifCond .ne 7, 3) := by decide +kernel
theorem dX5_readInto_43 : decode cX5_readInto 43 = .ok (.iconst 1, 1) := by decide +kernel
theorem dX5_readInto_44 : decode cX5_readInto 44 = .ok (.goto 4, 3) := by decide +kernel
theorem dX5_readInto_47 : decode cX5_readInto 47 = .ok (.iconst 0, 1) := by decide +kernel
theorem dX5_readInto_48 : decode cX5_readInto 48 = .ok (.invokevirtual 40, 3) := by decide +kernel
theorem dX5_readInto_51 : decode cX5_readInto 51 = .ok (.ifCond .ne 11, 3) := by decide +kernel
theorem dX5_readInto_54 : decode cX5_readInto 54 = .ok (.bipush (-10), 2) := by decide +kernel
theorem dX5_readInto_56 : decode cX5_readInto 56 = .ok (.aload_n 0, 1) := by decide +kernel
theorem dX5_readInto_57 : decode cX5_readInto 57 = .ok (.getfield 25, 3) := by decide +kernel
theorem dX5_readInto_60 : decode cX5_readInto 60 = .ok (.isub, 1) := by decide +kernel
theorem dX5_readInto_61 : decode cX5_readInto 61 = .ok (.ireturn, 1) := by decide +kernel
theorem dX5_readInto_62 : decode cX5_readInto 62 = .ok (.iinc 2 1, 3) := by decide +kernel
theorem dX5_readInto_65 : decode cX5_readInto 65 = .ok (.aload_n 0, 1) := by decide +kernel
theorem dX5_readInto_66 : decode cX5_readInto 66 = .ok (.invokevirtual 37, 3) := by decide +kernel
theorem dX5_readInto_69 : decode cX5_readInto 69 = .ok (.goto (-50), 3) := by decide +kernel
theorem dX5_readInto_72 : decode cX5_readInto 72 = .ok (.iload_n 2, 1) := by decide +kernel
theorem dX5_readInto_73 : decode cX5_readInto 73 = .ok (.ireturn, 1) := by decide +kernel
theorem dX5_takeItem_0 : decode cX5_takeItem 0 = .ok (.aload_n 0, 1) := by decide +kernel
theorem dX5_takeItem_1 : decode cX5_takeItem 1 = .ok (.getfield 22, 3) := by decide +kernel
theorem dX5_takeItem_4 : decode cX5_takeItem 4 = .ok (.iconst 1, 1) := by decide +kernel
theorem dX5_takeItem_5 : decode cX5_takeItem 5 = .ok (.if_icmp .ne 13, 3) := by decide +kernel
theorem dX5_takeItem_8 : decode cX5_takeItem 8 = .ok (.aload_n 0, 1) := by decide +kernel
theorem dX5_takeItem_9 : decode cX5_takeItem 9 = .ok (.ldc 44, 2) := by decide +kernel
theorem dX5_takeItem_11 : decode cX5_takeItem 11 = .ok (.invokevirtual 46, 3) := by decide +kernel
theorem dX5_takeItem_14 : decode cX5_takeItem 14 = .ok (.iload_n 2, 1) := by decide +kernel
theorem dX5_takeItem_15 : decode cX5_takeItem 15 = .ok (.if_icmp .eq 5, 3) := by decide +kernel
theorem dX5_takeItem_18 : decode cX5_takeItem 18 = .ok (.iconst 0, 1) := by decide +kernel
theorem dX5_takeItem_19 : decode cX5_takeItem 19 = .ok (.ireturn, 1) := by decide +kernel
theorem dX5_takeItem_20 : decode cX5_takeItem 20 = .ok (.iconst 0, 1) := by decide +kernel
theorem dX5_takeItem_21 : decode cX5_takeItem 21 = .ok (.istore_n 3, 1) := by decide +kernel
theorem dX5_takeItem_22 : decode cX5_takeItem 22 = .ok (.iload_n 2, 1) := by decide +kernel
theorem dX5_takeItem_23 : decode cX5_takeItem 23 = .ok (.ifCond .eq 12, 3) := by decide +kernel
theorem dX5_takeItem_26 : decode cX5_takeItem 26 = .ok (.aload_n 0, 1) := by decide +kernel
theorem dX5_takeItem_27 : decode cX5_takeItem 27 = .ok (.aload_n 1, 1) := by decide +kernel
theorem dX5_takeItem_28 : decode cX5_takeItem 28 = .ok (.invokevirtual 50, 3) := by decide +kernel
theorem dX5_takeItem_31 : decode cX5_takeItem 31 = .ok (.istore_n 3, 1) := by decide +kernel
theorem dX5_takeItem_32 : decode cX5_takeItem 32 = .ok (.goto 72, 3) := by decide +kernel
theorem dX5_takeItem_35 : decode cX5_takeItem 35 = .ok (.aload_n 0, 1) := by decide +kernel
theorem dX5_takeItem_36 : decode cX5_takeItem 36 = .ok (.ldc 54, 2) := by decide +kernel
theorem dX5_takeItem_38 : decode cX5_takeItem 38 = .ok (.invokevirtual 46, 3) := by decide +kernel
theorem dX5_takeItem_41 : decode cX5_takeItem 41 = .ok (.ifCond .eq 12, 3) := by decide +kernel
theorem dX5_takeItem_44 : decode cX5_takeItem 44 = .ok (.aload_n 0, 1) := by decide +kernel
theorem dX5_takeItem_45 : decode cX5_takeItem 45 = .ok (.aload_n 1, 1) := by decide +kernel
theorem dX5_takeItem_46 : decode cX5_takeItem 46 = .ok (.invokevirtual 56, 3) := by decide +kernel
theorem dX5_takeItem_49 : decode cX5_takeItem 49 = .ok (.istore_n 3, 1) := by decide +kernel
theorem dX5_takeItem_50 : decode cX5_takeItem 50 = .ok (.goto 54, 3) := by decide +kernel
theorem dX5_takeItem_53 : decode cX5_takeItem 53 = .ok (.aload_n 0, 1) := by decide +kernel
theorem dX5_takeItem_54 : decode cX5_takeItem 54 = .ok (.ldc 59, 2) := by decide +kernel
theorem dX5_takeItem_56 : decode cX5_takeItem 56 = .ok (.invokevirtual 46, 3) := by decide +kernel
theorem dX5_takeItem_59 : decode cX5_takeItem 59 = .ok (.ifCond .eq 12, 3) := by decide +kernel
theorem dX5_takeItem_62 : decode cX5_takeItem 62 = .ok (.aload_n 0, 1) := by decide +kernel
theorem dX5_takeItem_63 : decode cX5_takeItem 63 = .ok (.aload_n 1, 1) := by decide +kernel
theorem dX5_takeItem_64 : decode cX5_takeItem 64 = .ok (.invokevirtual 61, 3) := by decide +kernel
theorem dX5_takeItem_67 : decode cX5_takeItem 67 = .ok (.istore_n 3, 1) := by decide +kernel
theorem dX5_takeItem_68 : decode cX5_takeItem 68 = .ok (.goto 36, 3) := by decide +kernel
theorem dX5_takeItem_71 : decode cX5_takeItem 71 = .ok (.aload_n 0, 1) := by decide +kernel
theorem dX5_takeItem_72 : decode cX5_takeItem 72 = .ok (.ldc 64, 2) := by decide +kernel
theorem dX5_takeItem_74 : decode cX5_takeItem 74 = .ok (.invokevirtual 46, 3) := by decide +kernel
theorem dX5_takeItem_77 : decode cX5_takeItem 77 = .ok (.ifCond .eq 12, 3) := by decide +kernel
theorem dX5_takeItem_80 : decode cX5_takeItem 80 = .ok (.aload_n 0, 1) := by decide +kernel
theorem dX5_takeItem_81 : decode cX5_takeItem 81 = .ok (.aload_n 1, 1) := by decide +kernel
theorem dX5_takeItem_82 : decode cX5_takeItem 82 = .ok (.invokevirtual 66, 3) := by decide +kernel
theorem dX5_takeItem_85 : decode cX5_takeItem 85 = .ok (.istore_n 3, 1) := by decide +kernel
theorem dX5_takeItem_86 : decode cX5_takeItem 86 = .ok (.goto 18, 3) := by decide +kernel
theorem dX5_takeItem_89 : decode cX5_takeItem 89 = .ok (.aload_n 0, 1) := by decide +kernel
theorem dX5_takeItem_90 : decode cX5_takeItem 90 = .ok (.ldc 69, 2) := by decide +kernel
theorem dX5_takeItem_92 : decode cX5_takeItem 92 = .ok (.invokevirtual 46, 3) := by decide +kernel
theorem dX5_takeItem_95 : decode cX5_takeItem 95 = .ok (.ifCond .eq 9, 3) := by decide +kernel
theorem dX5_takeItem_98 : decode cX5_takeItem 98 = .ok (.aload_n 0, 1) := by decide +kernel
theorem dX5_takeItem_99 : decode cX5_takeItem 99 = .ok (.aload_n 1, 1) := by decide +kernel
theorem dX5_takeItem_100 : decode cX5_takeItem 100 = .ok (.invokevirtual 71, 3) := by decide +kernel
theorem dX5_takeItem_103 : decode cX5_takeItem 103 = .ok (.istore_n 3, 1) := by decide +kernel
theorem dX5_takeItem_104 : decode cX5_takeItem 104 = .ok (.iload_n 3, 1) := by decide +kernel
theorem dX5_takeItem_105 : decode cX5_takeItem 105 = .ok (.ifCond .eq 14, 3) := by decide +kernel
theorem dX5_takeItem_108 : decode cX5_takeItem 108 = .ok (.aload_n 0, 1) := by decide +kernel
theorem dX5_takeItem_109 : decode cX5_takeItem 109 = .ok (.invokevirtual 74, 3) := by decide +kernel
theorem dX5_takeItem_112 : decode cX5_takeItem 112 = .ok (.ifCond .eq 7, 3) := by decide +kernel
theorem dX5_takeItem_115 : decode cX5_takeItem 115 = .ok (.iconst 1, 1) := by decide +kernel
theorem dX5_takeItem_116 : decode cX5_takeItem 116 = .ok (.goto 4, 3) := by decide +kernel
theorem dX5_takeItem_119 : decode cX5_takeItem 119 = .ok (.iconst 0, 1) := by decide +kernel
theorem dX5_takeItem_120 : decode cX5_takeItem 120 = .ok (.ireturn, 1) := by decide +kernel
theorem dX5_takeTrack_0 : decode cX5_takeTrack 0 = .ok (.aload_n 0, 1) := by decide +kernel
theorem dX5_takeTrack_1 : decode cX5_takeTrack 1 = .ok (.bipush 7, 2) := by decide +kernel
theorem dX5_takeTrack_3 : decode cX5_takeTrack 3 = .ok (.invokevirtual 78, 3) := by decide +kernel
theorem dX5_takeTrack_6 : decode cX5_takeTrack 6 = .ok (.ifCond .ne 5, 3) := by decide +kernel
theorem dX5_takeTrack_9 : decode cX5_takeTrack 9 = .ok (.iconst 0, 1) := by decide +kernel
theorem dX5_takeTrack_10 : decode cX5_takeTrack 10 = .ok (.ireturn, 1) := by decide +kernel
theorem dX5_takeTrack_11 : decode cX5_takeTrack 11 = .ok (.aload_n 1, 1) := by decide +kernel
theorem dX5_takeTrack_12 : decode cX5_takeTrack 12 = .ok (.aload_n 0, 1) := by decide +kernel
theorem dX5_takeTrack_13 : decode cX5_takeTrack 13 = .ok (.getfield 28, 3) := by decide +kernel
theorem dX5_takeTrack_16 : decode cX5_takeTrack 16 = .ok (.putfield 82, 3) := by decide +kernel
theorem dX5_takeTrack_19 : decode cX5_takeTrack 19 = .ok (.iconst 1, 1) := by decide +kernel
theorem dX5_takeTrack_20 : decode cX5_takeTrack 20 = .ok (.ireturn, 1) := by decide +kernel
theorem dX5_takeDark_0 : decode cX5_takeDark 0 = .ok (.aload_n 0, 1) := by decide +kernel
theorem dX5_takeDark_1 : decode cX5_takeDark 1 = .ok (.bipush 24, 2) := by decide +kernel
theorem dX5_takeDark_3 : decode cX5_takeDark 3 = .ok (.invokevirtual 78, 3) := by decide +kernel
theorem dX5_takeDark_6 : decode cX5_takeDark 6 = .ok (.ifCond .ne 5, 3) := by decide +kernel
theorem dX5_takeDark_9 : decode cX5_takeDark 9 = .ok (.iconst 0, 1) := by decide +kernel
theorem dX5_takeDark_10 : decode cX5_takeDark 10 = .ok (.ireturn, 1) := by decide +kernel
theorem dX5_takeDark_11 : decode cX5_takeDark 11 = .ok (.aload_n 1, 1) := by decide +kernel
theorem dX5_takeDark_12 : decode cX5_takeDark 12 = .ok (.bipush 10, 2) := by decide +kernel
theorem dX5_takeDark_14 : decode cX5_takeDark 14 = .ok (.aload_n 0, 1) := by decide +kernel
theorem dX5_takeDark_15 : decode cX5_takeDark 15 = .ok (.getfield 28, 3) := by decide +kernel
theorem dX5_takeDark_18 : decode cX5_takeDark 18 = .ok (.imul, 1) := by decide +kernel
theorem dX5_takeDark_19 : decode cX5_takeDark 19 = .ok (.putfield 85, 3) := by decide +kernel
theorem dX5_takeDark_22 : decode cX5_takeDark 22 = .ok (.iconst 1, 1) := by decide +kernel
theorem dX5_takeDark_23 : decode cX5_takeDark 23 = .ok (.ireturn, 1) := by decide +kernel
theorem dX5_takeHeights_0 : decode cX5_takeHeights 0 = .ok (.iconst 0, 1) := by decide +kernel
theorem dX5_takeHeights_1 : decode cX5_takeHeights 1 = .ok (.istore_n 2, 1) := by decide +kernel
theorem dX5_takeHeights_2 : decode cX5_takeHeights 2 = .ok (.iload_n 2, 1) := by decide +kernel
theorem dX5_takeHeights_3 : decode cX5_takeHeights 3 = .ok (.bipush 8, 2) := by decide +kernel
theorem dX5_takeHeights_5 : decode cX5_takeHeights 5 = .ok (.if_icmp .ge 30, 3) := by decide +kernel
theorem dX5_takeHeights_8 : decode cX5_takeHeights 8 = .ok (.aload_n 0, 1) := by decide +kernel
theorem dX5_takeHeights_9 : decode cX5_takeHeights 9 = .ok (.bipush 9, 2) := by decide +kernel
theorem dX5_takeHeights_11 : decode cX5_takeHeights 11 = .ok (.invokevirtual 78, 3) := by decide +kernel
theorem dX5_takeHeights_14 : decode cX5_takeHeights 14 = .ok (.ifCond .ne 5, 3) := by decide +kernel
theorem dX5_takeHeights_17 : decode cX5_takeHeights 17 = .ok (.iconst 0, 1) := by decide +kernel
theorem dX5_takeHeights_18 : decode cX5_takeHeights 18 = .ok (.ireturn, 1) := by decide +kernel
theorem dX5_takeHeights_19 : decode cX5_takeHeights 19 = .ok (.aload_n 1, 1) := by decide +kernel
theorem dX5_takeHeights_20 : decode cX5_takeHeights 20 = .ok (.getfield 87, 3) := by decide +kernel
theorem dX5_takeHeights_23 : decode cX5_takeHeights 23 = .ok (.iload_n 2, 1) := by decide +kernel
theorem dX5_takeHeights_24 : decode cX5_takeHeights 24 = .ok (.aload_n 0, 1) := by decide +kernel
theorem dX5_takeHeights_25 : decode cX5_takeHeights 25 = .ok (.getfield 28, 3) := by decide +kernel
theorem dX5_takeHeights_28 : decode cX5_takeHeights 28 = .ok (.iastore, 1) := by decide +kernel
theorem dX5_takeHeights_29 : decode cX5_takeHeights 29 = .ok (.iinc 2 1, 3) := by decide +kernel
theorem dX5_takeHeights_32 : decode cX5_takeHeights 32 = .ok (.goto (-30), 3) := by decide +kernel
theorem dX5_takeHeights_35 : decode cX5_takeHeights 35 = .ok (.iconst 1, 1) := by decide +kernel
theorem dX5_takeHeights_36 : decode cX5_takeHeights 36 = .ok (.ireturn, 1) := by decide +kernel
theorem dX5_takeBidder_0 : decode cX5_takeBidder 0 = .ok (.aload_n 1, 1) := by decide +kernel
theorem dX5_takeBidder_1 : decode cX5_takeBidder 1 = .ok (.getfield 90, 3) := by decide +kernel
theorem dX5_takeBidder_4 : decode cX5_takeBidder 4 = .ok (.iconst 5, 1) := by decide +kernel
theorem dX5_takeBidder_5 : decode cX5_takeBidder 5 = .ok (.if_icmp .ge 11, 3) := by decide +kernel
theorem dX5_takeBidder_8 : decode cX5_takeBidder 8 = .ok (.aload_n 0, 1) := by decide +kernel
theorem dX5_takeBidder_9 : decode cX5_takeBidder 9 = .ok (.iconst 5, 1) := by decide +kernel
theorem dX5_takeBidder_10 : decode cX5_takeBidder 10 = .ok (.invokevirtual 78, 3) := by decide +kernel
theorem dX5_takeBidder_13 : decode cX5_takeBidder 13 = .ok (.ifCond .ne 5, 3) := by decide +kernel
theorem dX5_takeBidder_16 : decode cX5_takeBidder 16 = .ok (.iconst 0, 1) := by decide +kernel
theorem dX5_takeBidder_17 : decode cX5_takeBidder 17 = .ok (.ireturn, 1) := by decide +kernel
theorem dX5_takeBidder_18 : decode cX5_takeBidder 18 = .ok (.aload_n 0, 1) := by decide +kernel
theorem dX5_takeBidder_19 : decode cX5_takeBidder 19 = .ok (.getfield 28, 3) := by decide +kernel
theorem dX5_takeBidder_22 : decode cX5_takeBidder 22 = .ok (.istore_n 2, 1) := by decide +kernel
theorem dX5_takeBidder_23 : decode cX5_takeBidder 23 = .ok (.aload_n 0, 1) := by decide +kernel
theorem dX5_takeBidder_24 : decode cX5_takeBidder 24 = .ok (.bipush 50, 2) := by decide +kernel
theorem dX5_takeBidder_26 : decode cX5_takeBidder 26 = .ok (.invokevirtual 78, 3) := by decide +kernel
theorem dX5_takeBidder_29 : decode cX5_takeBidder 29 = .ok (.ifCond .ne 5, 3) := by decide +kernel
theorem dX5_takeBidder_32 : decode cX5_takeBidder 32 = .ok (.iconst 0, 1) := by decide +kernel
theorem dX5_takeBidder_33 : decode cX5_takeBidder 33 = .ok (.ireturn, 1) := by decide +kernel
theorem dX5_takeBidder_34 : decode cX5_takeBidder 34 = .ok (.aload_n 1, 1) := by decide +kernel
theorem dX5_takeBidder_35 : decode cX5_takeBidder 35 = .ok (.iload_n 2, 1) := by decide +kernel
theorem dX5_takeBidder_36 : decode cX5_takeBidder 36 = .ok (.bipush 10, 2) := by decide +kernel
theorem dX5_takeBidder_38 : decode cX5_takeBidder 38 = .ok (.aload_n 0, 1) := by decide +kernel
theorem dX5_takeBidder_39 : decode cX5_takeBidder 39 = .ok (.getfield 28, 3) := by decide +kernel
theorem dX5_takeBidder_42 : decode cX5_takeBidder 42 = .ok (.imul, 1) := by decide +kernel
theorem dX5_takeBidder_43 : decode cX5_takeBidder 43 = .ok (.invokevirtual 95, 3) := by decide +kernel
theorem dX5_takeBidder_46 : decode cX5_takeBidder 46 = .ok (.pop, 1) := by decide +kernel
theorem dX5_takeBidder_47 : decode cX5_takeBidder 47 = .ok (.iconst 1, 1) := by decide +kernel
theorem dX5_takeBidder_48 : decode cX5_takeBidder 48 = .ok (.ireturn, 1) := by decide +kernel
theorem dX5_takeSeat_0 : decode cX5_takeSeat 0 = .ok (.aload_n 0, 1) := by decide +kernel
theorem dX5_takeSeat_1 : decode cX5_takeSeat 1 = .ok (.aload_n 1, 1) := by decide +kernel
theorem dX5_takeSeat_2 : decode cX5_takeSeat 2 = .ok (.getfield 90, 3) := by decide +kernel
theorem dX5_takeSeat_5 : decode cX5_takeSeat 5 = .ok (.iconst 1, 1) := by decide +kernel
theorem dX5_takeSeat_6 : decode cX5_takeSeat 6 = .ok (.isub, 1) := by decide +kernel
theorem dX5_takeSeat_7 : decode cX5_takeSeat 7 = .ok (.invokevirtual 78, 3) := by decide +kernel
theorem dX5_takeSeat_10 : decode cX5_takeSeat 10 = .ok (.ifCond .eq 16, 3) := by decide +kernel
theorem dX5_takeSeat_13 : decode cX5_takeSeat 13 = .ok (.aload_n 1, 1) := by decide +kernel
theorem dX5_takeSeat_14 : decode cX5_takeSeat 14 = .ok (.getfield 99, 3) := by decide +kernel
theorem dX5_takeSeat_17 : decode cX5_takeSeat 17 = .ok (.aload_n 0, 1) := by decide +kernel
theorem dX5_takeSeat_18 : decode cX5_takeSeat 18 = .ok (.getfield 28, 3) := by decide +kernel
theorem dX5_takeSeat_21 : decode cX5_takeSeat 21 = .ok (.iaload, 1) := by decide +kernel
theorem dX5_takeSeat_22 : decode cX5_takeSeat 22 = .ok (.iconst (-1), 1) := by decide +kernel
theorem dX5_takeSeat_23 : decode cX5_takeSeat 23 = .ok (.if_icmp .eq 5, 3) := by decide +kernel
theorem dX5_takeSeat_26 : decode cX5_takeSeat 26 = .ok (.iconst 0, 1) := by decide +kernel
theorem dX5_takeSeat_27 : decode cX5_takeSeat 27 = .ok (.ireturn, 1) := by decide +kernel
theorem dX5_takeSeat_28 : decode cX5_takeSeat 28 = .ok (.aload_n 0, 1) := by decide +kernel
theorem dX5_takeSeat_29 : decode cX5_takeSeat 29 = .ok (.getfield 28, 3) := by decide +kernel
theorem dX5_takeSeat_32 : decode cX5_takeSeat 32 = .ok (.istore_n 2, 1) := by decide +kernel
theorem dX5_takeSeat_33 : decode cX5_takeSeat 33 = .ok (.aload_n 0, 1) := by decide +kernel
theorem dX5_takeSeat_34 : decode cX5_takeSeat 34 = .ok (.bipush 7, 2) := by decide +kernel
theorem dX5_takeSeat_36 : decode cX5_takeSeat 36 = .ok (.invokevirtual 78, 3) := by decide +kernel
theorem dX5_takeSeat_39 : decode cX5_takeSeat 39 = .ok (.ifCond .eq 15, 3) := by decide +kernel
theorem dX5_takeSeat_42 : decode cX5_takeSeat 42 = .ok (.aload_n 1, 1) := by decide +kernel
theorem dX5_takeSeat_43 : decode cX5_takeSeat 43 = .ok (.aload_n 0, 1) := by decide +kernel
theorem dX5_takeSeat_44 : decode cX5_takeSeat 44 = .ok (.getfield 28, 3) := by decide +kernel
theorem dX5_takeSeat_47 : decode cX5_takeSeat 47 = .ok (.invokevirtual 102, 3) := by decide +kernel
theorem dX5_takeSeat_50 : decode cX5_takeSeat 50 = .ok (.iconst (-1), 1) := by decide +kernel
theorem dX5_takeSeat_51 : decode cX5_takeSeat 51 = .ok (.if_icmp .eq 5, 3) := by decide +kernel
theorem dX5_takeSeat_54 : decode cX5_takeSeat 54 = .ok (.iconst 0, 1) := by decide +kernel
theorem dX5_takeSeat_55 : decode cX5_takeSeat 55 = .ok (.ireturn, 1) := by decide +kernel
theorem dX5_takeSeat_56 : decode cX5_takeSeat 56 = .ok (.aload_n 1, 1) := by decide +kernel
theorem dX5_takeSeat_57 : decode cX5_takeSeat 57 = .ok (.getfield 99, 3) := by decide +kernel
theorem dX5_takeSeat_60 : decode cX5_takeSeat 60 = .ok (.iload_n 2, 1) := by decide +kernel
theorem dX5_takeSeat_61 : decode cX5_takeSeat 61 = .ok (.aload_n 0, 1) := by decide +kernel
theorem dX5_takeSeat_62 : decode cX5_takeSeat 62 = .ok (.getfield 28, 3) := by decide +kernel
theorem dX5_takeSeat_65 : decode cX5_takeSeat 65 = .ok (.iastore, 1) := by decide +kernel
theorem dX5_takeSeat_66 : decode cX5_takeSeat 66 = .ok (.iconst 1, 1) := by decide +kernel
theorem dX5_takeSeat_67 : decode cX5_takeSeat 67 = .ok (.ireturn, 1) := by decide +kernel
theorem dX5_takeNumber_0 : decode cX5_takeNumber 0 = .ok (.aload_n 0, 1) := by decide +kernel
theorem dX5_takeNumber_1 : decode cX5_takeNumber 1 = .ok (.invokevirtual 37, 3) := by decide +kernel
theorem dX5_takeNumber_4 : decode cX5_takeNumber 4 = .ok (.aload_n 0, 1) := by decide +kernel
theorem dX5_takeNumber_5 : decode cX5_takeNumber 5 = .ok (.getfield 22, 3) := by decide +kernel
theorem dX5_takeNumber_8 : decode cX5_takeNumber 8 = .ok (.iconst 2, 1) := by decide +kernel
theorem dX5_takeNumber_9 : decode cX5_takeNumber 9 = .ok (.if_icmp .ne 15, 3) := by decide +kernel
theorem dX5_takeNumber_12 : decode cX5_takeNumber 12 = .ok (.aload_n 0, 1) := by decide +kernel
theorem dX5_takeNumber_13 : decode cX5_takeNumber 13 = .ok (.getfield 28, 3) := by decide +kernel
theorem dX5_takeNumber_16 : decode cX5_takeNumber 16 = .ok (.iload_n 1, 1) := by decide +kernel
theorem dX5_takeNumber_17 : decode cX5_takeNumber 17 = .ok (.if_icmp .gt 7, 3) := by decide +kernel
theorem dX5_takeNumber_20 : decode cX5_takeNumber 20 = .ok (.iconst 1, 1) := by decide +kernel
theorem dX5_takeNumber_21 : decode cX5_takeNumber 21 = .ok (.goto 4, 3) := by decide +kernel
theorem dX5_takeNumber_24 : decode cX5_takeNumber 24 = .ok (.iconst 0, 1) := by decide +kernel
theorem dX5_takeNumber_25 : decode cX5_takeNumber 25 = .ok (.ireturn, 1) := by decide +kernel
theorem dX5_takeStop_0 : decode cX5_takeStop 0 = .ok (.aload_n 0, 1) := by decide +kernel
theorem dX5_takeStop_1 : decode cX5_takeStop 1 = .ok (.invokevirtual 37, 3) := by decide +kernel
theorem dX5_takeStop_4 : decode cX5_takeStop 4 = .ok (.aload_n 0, 1) := by decide +kernel
theorem dX5_takeStop_5 : decode cX5_takeStop 5 = .ok (.getfield 22, 3) := by decide +kernel
theorem dX5_takeStop_8 : decode cX5_takeStop 8 = .ok (.iconst 3, 1) := by decide +kernel
theorem dX5_takeStop_9 : decode cX5_takeStop 9 = .ok (.if_icmp .ne 7, 3) := by decide +kernel
theorem dX5_takeStop_12 : decode cX5_takeStop 12 = .ok (.iconst 1, 1) := by decide +kernel
theorem dX5_takeStop_13 : decode cX5_takeStop 13 = .ok (.goto 4, 3) := by decide +kernel
theorem dX5_takeStop_16 : decode cX5_takeStop 16 = .ok (.iconst 0, 1) := by decide +kernel
theorem dX5_takeStop_17 : decode cX5_takeStop 17 = .ok (.ireturn, 1) := by decide +kernel
theorem dX5_step_0 : decode cX5_step 0 = .ok (.aload_n 0, 1) := by decide +kernel
theorem dX5_step_1 : decode cX5_step 1 = .ok (.getfield 19, 3) := by decide +kernel
theorem dX5_step_4 : decode cX5_step 4 = .ok (.aload_n 0, 1) := by decide +kernel
theorem dX5_step_5 : decode cX5_step 5 = .ok (.getfield 15, 3) := by decide +kernel
theorem dX5_step_8 : decode cX5_step 8 = .ok (.if_icmp .ge 30, 3) := by decide +kernel
theorem dX5_step_11 : decode cX5_step 11 = .ok (.aload_n 0, 1) := by decide +kernel
theorem dX5_step_12 : decode cX5_step 12 = .ok (.getfield 9, 3) := by decide +kernel
theorem dX5_step_15 : decode cX5_step 15 = .ok (.aload_n 0, 1) := by decide +kernel
theorem dX5_step_16 : decode cX5_step 16 = .ok (.getfield 19, 3) := by decide +kernel
theorem dX5_step_19 : decode cX5_step 19 = .ok (.baload, 1) := by decide +kernel
theorem dX5_step_20 : decode cX5_step 20 = .ok (.bipush 32, 2) := by decide +kernel
theorem dX5_step_22 : decode cX5_step 22 = .ok (.if_icmp .ne 16, 3) := by decide +kernel
theorem dX5_step_25 : decode cX5_step 25 = .ok (.aload_n 0, 1) := by decide +kernel
theorem dX5_step_26 : decode cX5_step 26 = .ok (.dup, 1) := by decide +kernel
theorem dX5_step_27 : decode cX5_step 27 = .ok (.getfield 19, 3) := by decide +kernel
theorem dX5_step_30 : decode cX5_step 30 = .ok (.iconst 1, 1) := by decide +kernel
theorem dX5_step_31 : decode cX5_step 31 = .ok (.iadd, 1) := by decide +kernel
theorem dX5_step_32 : decode cX5_step 32 = .ok (.putfield 19, 3) := by decide +kernel
theorem dX5_step_35 : decode cX5_step 35 = .ok (.goto (-35), 3) := by decide +kernel
theorem dX5_step_38 : decode cX5_step 38 = .ok (.aload_n 0, 1) := by decide +kernel
theorem dX5_step_39 : decode cX5_step 39 = .ok (.aload_n 0, 1) := by decide +kernel
theorem dX5_step_40 : decode cX5_step 40 = .ok (.getfield 19, 3) := by decide +kernel
theorem dX5_step_43 : decode cX5_step 43 = .ok (.putfield 25, 3) := by decide +kernel
theorem dX5_step_46 : decode cX5_step 46 = .ok (.aload_n 0, 1) := by decide +kernel
theorem dX5_step_47 : decode cX5_step 47 = .ok (.getfield 19, 3) := by decide +kernel
theorem dX5_step_50 : decode cX5_step 50 = .ok (.aload_n 0, 1) := by decide +kernel
theorem dX5_step_51 : decode cX5_step 51 = .ok (.getfield 15, 3) := by decide +kernel
theorem dX5_step_54 : decode cX5_step 54 = .ok (.if_icmp .lt 9, 3) := by decide +kernel
theorem dX5_step_57 : decode cX5_step 57 = .ok (.aload_n 0, 1) := by decide +kernel
theorem dX5_step_58 : decode cX5_step 58 = .ok (.iconst 0, 1) := by decide +kernel
theorem dX5_step_59 : decode cX5_step 59 = .ok (.putfield 22, 3) := by decide +kernel
theorem dX5_step_62 : decode cX5_step 62 = .ok (.return_, 1) := by decide +kernel
theorem dX5_step_63 : decode cX5_step 63 = .ok (.aload_n 0, 1) := by decide +kernel
theorem dX5_step_64 : decode cX5_step 64 = .ok (.getfield 19, 3) := by decide +kernel
theorem dX5_step_67 : decode cX5_step 67 = .ok (.aload_n 0, 1) := by decide +kernel
theorem dX5_step_68 : decode cX5_step 68 = .ok (.getfield 15, 3) := by decide +kernel
theorem dX5_step_71 : decode cX5_step 71 = .ok (.if_icmp .ge 31, 3) := by decide +kernel
theorem dX5_step_74 : decode cX5_step 74 = .ok (.aload_n 0, 1) := by decide +kernel
theorem dX5_step_75 : decode cX5_step 75 = .ok (.getfield 9, 3) := by decide +kernel
theorem dX5_step_78 : decode cX5_step 78 = .ok (.aload_n 0, 1) := by decide +kernel
theorem dX5_step_79 : decode cX5_step 79 = .ok (.getfield 19, 3) := by decide +kernel
theorem dX5_step_82 : decode cX5_step 82 = .ok (.baload, 1) := by decide +kernel
theorem dX5_step_83 : decode cX5_step 83 = .ok (.invokestatic 106, 3) := by decide +kernel
theorem dX5_step_86 : decode cX5_step 86 = .ok (.ifCond .eq 16, 3) := by decide +kernel
theorem dX5_step_89 : decode cX5_step 89 = .ok (.aload_n 0, 1) := by decide +kernel
theorem dX5_step_90 : decode cX5_step 90 = .ok (.dup, 1) := by decide +kernel
theorem dX5_step_91 : decode cX5_step 91 = .ok (.getfield 19, 3) := by decide +kernel
theorem dX5_step_94 : decode cX5_step 94 = .ok (.iconst 1, 1) := by decide +kernel
theorem dX5_step_95 : decode cX5_step 95 = .ok (.iadd, 1) := by decide +kernel
theorem dX5_step_96 : decode cX5_step 96 = .ok (.putfield 19, 3) := by decide +kernel
theorem dX5_step_99 : decode cX5_step 99 = .ok (.goto (-36), 3) := by decide +kernel
theorem dX5_step_102 : decode cX5_step 102 = .ok (.aload_n 0, 1) := by decide +kernel
theorem dX5_step_103 : decode cX5_step 103 = .ok (.getfield 19, 3) := by decide +kernel
theorem dX5_step_106 : decode cX5_step 106 = .ok (.aload_n 0, 1) := by decide +kernel
theorem dX5_step_107 : decode cX5_step 107 = .ok (.getfield 25, 3) := by decide +kernel
theorem dX5_step_110 : decode cX5_step 110 = .ok (.if_icmp .le 9, 3) := by decide +kernel
theorem dX5_step_113 : decode cX5_step 113 = .ok (.aload_n 0, 1) := by decide +kernel
theorem dX5_step_114 : decode cX5_step 114 = .ok (.iconst 1, 1) := by decide +kernel
theorem dX5_step_115 : decode cX5_step 115 = .ok (.putfield 22, 3) := by decide +kernel
theorem dX5_step_118 : decode cX5_step 118 = .ok (.return_, 1) := by decide +kernel
theorem dX5_step_119 : decode cX5_step 119 = .ok (.aload_n 0, 1) := by decide +kernel
theorem dX5_step_120 : decode cX5_step 120 = .ok (.getfield 19, 3) := by decide +kernel
theorem dX5_step_123 : decode cX5_step 123 = .ok (.aload_n 0, 1) := by decide +kernel
theorem dX5_step_124 : decode cX5_step 124 = .ok (.getfield 15, 3) := by decide +kernel
theorem dX5_step_127 : decode cX5_step 127 = .ok (.if_icmp .ge 31, 3) := by decide +kernel
theorem dX5_step_130 : decode cX5_step 130 = .ok (.aload_n 0, 1) := by decide +kernel
theorem dX5_step_131 : decode cX5_step 131 = .ok (.getfield 9, 3) := by decide +kernel
theorem dX5_step_134 : decode cX5_step 134 = .ok (.aload_n 0, 1) := by decide +kernel
theorem dX5_step_135 : decode cX5_step 135 = .ok (.getfield 19, 3) := by decide +kernel
theorem dX5_step_138 : decode cX5_step 138 = .ok (.baload, 1) := by decide +kernel
theorem dX5_step_139 : decode cX5_step 139 = .ok (.invokestatic 109, 3) := by decide +kernel
theorem dX5_step_142 : decode cX5_step 142 = .ok (.ifCond .eq 16, 3) := by decide +kernel
theorem dX5_step_145 : decode cX5_step 145 = .ok (.aload_n 0, 1) := by decide +kernel
theorem dX5_step_146 : decode cX5_step 146 = .ok (.dup, 1) := by decide +kernel
theorem dX5_step_147 : decode cX5_step 147 = .ok (.getfield 19, 3) := by decide +kernel
theorem dX5_step_150 : decode cX5_step 150 = .ok (.iconst 1, 1) := by decide +kernel
theorem dX5_step_151 : decode cX5_step 151 = .ok (.iadd, 1) := by decide +kernel
theorem dX5_step_152 : decode cX5_step 152 = .ok (.putfield 19, 3) := by decide +kernel
theorem dX5_step_155 : decode cX5_step 155 = .ok (.goto (-36), 3) := by decide +kernel
theorem dX5_step_158 : decode cX5_step 158 = .ok (.aload_n 0, 1) := by decide +kernel
theorem dX5_step_159 : decode cX5_step 159 = .ok (.getfield 19, 3) := by decide +kernel
theorem dX5_step_162 : decode cX5_step 162 = .ok (.aload_n 0, 1) := by decide +kernel
theorem dX5_step_163 : decode cX5_step 163 = .ok (.getfield 25, 3) := by decide +kernel
theorem dX5_step_166 : decode cX5_step 166 = .ok (.if_icmp .le 77, 3) := by decide +kernel
theorem dX5_step_169 : decode cX5_step 169 = .ok (.aload_n 0, 1) := by decide +kernel
theorem dX5_step_170 : decode cX5_step 170 = .ok (.aload_n 0, 1) := by decide +kernel
theorem dX5_step_171 : decode cX5_step 171 = .ok (.getfield 19, 3) := by decide +kernel
theorem dX5_step_174 : decode cX5_step 174 = .ok (.aload_n 0, 1) := by decide +kernel
theorem dX5_step_175 : decode cX5_step 175 = .ok (.getfield 25, 3) := by decide +kernel
theorem dX5_step_178 : decode cX5_step 178 = .ok (.isub, 1) := by decide +kernel
theorem dX5_step_179 : decode cX5_step 179 = .ok (.iconst 2, 1) := by decide +kernel
theorem dX5_step_180 : decode cX5_step 180 = .ok (.if_icmp .gt 7, 3) := by decide +kernel
theorem dX5_step_183 : decode cX5_step 183 = .ok (.iconst 2, 1) := by decide +kernel
theorem dX5_step_184 : decode cX5_step 184 = .ok (.goto 4, 3) := by decide +kernel
theorem dX5_step_187 : decode cX5_step 187 = .ok (.iconst 4, 1) := by decide +kernel
theorem dX5_step_188 : decode cX5_step 188 = .ok (.putfield 22, 3) := by decide +kernel
theorem dX5_step_191 : decode cX5_step 191 = .ok (.aload_n 0, 1) := by decide +kernel
theorem dX5_step_192 : decode cX5_step 192 = .ok (.bipush 10, 2) := by decide +kernel
theorem dX5_step_194 : decode cX5_step 194 = .ok (.aload_n 0, 1) := by decide +kernel
theorem dX5_step_195 : decode cX5_step 195 = .ok (.getfield 19, 3) := by decide +kernel
theorem dX5_step_198 : decode cX5_step 198 = .ok (.aload_n 0, 1) := by decide +kernel
theorem dX5_step_199 : decode cX5_step 199 = .ok (.getfield 25, 3) := by decide +kernel
theorem dX5_step_202 : decode cX5_step 202 = .ok (.isub, 1) := by decide +kernel
theorem dX5_step_203 : decode cX5_step 203 = .ok (.iconst 2, 1) := by decide +kernel
theorem dX5_step_204 : decode cX5_step 204 = .ok (.if_icmp .ne 18, 3) := by decide +kernel
theorem dX5_step_207 : decode cX5_step 207 = .ok (.aload_n 0, 1) := by decide +kernel
theorem dX5_step_208 : decode cX5_step 208 = .ok (.getfield 9, 3) := by decide +kernel
theorem dX5_step_211 : decode cX5_step 211 = .ok (.aload_n 0, 1) := by decide +kernel
theorem dX5_step_212 : decode cX5_step 212 = .ok (.getfield 25, 3) := by decide +kernel
theorem dX5_step_215 : decode cX5_step 215 = .ok (.baload, 1) := by decide +kernel
theorem dX5_step_216 : decode cX5_step 216 = .ok (.bipush 48, 2) := by decide +kernel
theorem dX5_step_218 : decode cX5_step 218 = .ok (.isub, 1) := by decide +kernel
theorem dX5_step_219 : decode cX5_step 219 = .ok (.goto 4, 3) := by decide +kernel
theorem dX5_step_222 : decode cX5_step 222 = .ok (.iconst 0, 1) := by decide +kernel
theorem dX5_step_223 : decode cX5_step 223 = .ok (.imul, 1) := by decide +kernel
theorem dX5_step_224 : decode cX5_step 224 = .ok (.aload_n 0, 1) := by decide +kernel
theorem dX5_step_225 : decode cX5_step 225 = .ok (.getfield 9, 3) := by decide +kernel
theorem dX5_step_228 : decode cX5_step 228 = .ok (.aload_n 0, 1) := by decide +kernel
theorem dX5_step_229 : decode cX5_step 229 = .ok (.getfield 19, 3) := by decide +kernel
theorem dX5_step_232 : decode cX5_step 232 = .ok (.iconst 1, 1) := by decide +kernel
theorem dX5_step_233 : decode cX5_step 233 = .ok (.isub, 1) := by decide +kernel
theorem dX5_step_234 : decode cX5_step 234 = .ok (.baload, 1) := by decide +kernel
theorem dX5_step_235 : decode cX5_step 235 = .ok (.iadd, 1) := by decide +kernel
theorem dX5_step_236 : decode cX5_step 236 = .ok (.bipush 48, 2) := by decide +kernel
theorem dX5_step_238 : decode cX5_step 238 = .ok (.isub, 1) := by decide +kernel
theorem dX5_step_239 : decode cX5_step 239 = .ok (.putfield 28, 3) := by decide +kernel
theorem dX5_step_242 : decode cX5_step 242 = .ok (.return_, 1) := by decide +kernel
theorem dX5_step_243 : decode cX5_step 243 = .ok (.aload_n 0, 1) := by decide +kernel
theorem dX5_step_244 : decode cX5_step 244 = .ok (.aload_n 0, 1) := by decide +kernel
theorem dX5_step_245 : decode cX5_step 245 = .ok (.getfield 9, 3) := by decide +kernel
theorem dX5_step_248 : decode cX5_step 248 = .ok (.aload_n 0, 1) := by decide +kernel
theorem dX5_step_249 : decode cX5_step 249 = .ok (.getfield 19, 3) := by decide +kernel
theorem dX5_step_252 : decode cX5_step 252 = .ok (.baload, 1) := by decide +kernel
theorem dX5_step_253 : decode cX5_step 253 = .ok (.bipush 59, 2) := by decide +kernel
theorem dX5_step_255 : decode cX5_step 255 = .ok (.if_icmp .ne 7, 3) := by decide +kernel
theorem dX5_step_258 : decode cX5_step 258 = .ok (.iconst 3, 1) := by decide +kernel
theorem dX5_step_259 : decode cX5_step 259 = .ok (.goto 4, 3) := by decide +kernel
theorem dX5_step_262 : decode cX5_step 262 = .ok (.iconst 4, 1) := by decide +kernel
theorem dX5_step_263 : decode cX5_step 263 = .ok (.putfield 22, 3) := by decide +kernel
theorem dX5_step_266 : decode cX5_step 266 = .ok (.aload_n 0, 1) := by decide +kernel
theorem dX5_step_267 : decode cX5_step 267 = .ok (.dup, 1) := by decide +kernel
theorem dX5_step_268 : decode cX5_step 268 = .ok (.getfield 19, 3) := by decide +kernel
theorem dX5_step_271 : decode cX5_step 271 = .ok (.iconst 1, 1) := by decide +kernel
theorem dX5_step_272 : decode cX5_step 272 = .ok (.iadd, 1) := by decide +kernel
theorem dX5_step_273 : decode cX5_step 273 = .ok (.putfield 19, 3) := by decide +kernel
theorem dX5_step_276 : decode cX5_step 276 = .ok (.return_, 1) := by decide +kernel
theorem dX5_isWord_0 : decode cX5_isWord 0 = .ok (.aload_n 0, 1) := by decide +kernel
theorem dX5_isWord_1 : decode cX5_isWord 1 = .ok (.getfield 19, 3) := by decide +kernel
theorem dX5_isWord_4 : decode cX5_isWord 4 = .ok (.aload_n 0, 1) := by decide +kernel
theorem dX5_isWord_5 : decode cX5_isWord 5 = .ok (.getfield 25, 3) := by decide +kernel
theorem dX5_isWord_8 : decode cX5_isWord 8 = .ok (.isub, 1) := by decide +kernel
theorem dX5_isWord_9 : decode cX5_isWord 9 = .ok (.aload_n 1, 1) := by decide +kernel
theorem dX5_isWord_10 : decode cX5_isWord 10 = .ok (.invokevirtual 112, 3) := by decide +kernel
theorem dX5_isWord_13 : decode cX5_isWord 13 = .ok (.if_icmp .eq 5, 3) := by decide +kernel
theorem dX5_isWord_16 : decode cX5_isWord 16 = .ok (.iconst 0, 1) := by decide +kernel
theorem dX5_isWord_17 : decode cX5_isWord 17 = .ok (.ireturn, 1) := by decide +kernel
theorem dX5_isWord_18 : decode cX5_isWord 18 = .ok (.iconst 0, 1) := by decide +kernel
theorem dX5_isWord_19 : decode cX5_isWord 19 = .ok (.istore_n 2, 1) := by decide +kernel
theorem dX5_isWord_20 : decode cX5_isWord 20 = .ok (.iload_n 2, 1) := by decide +kernel
theorem dX5_isWord_21 : decode cX5_isWord 21 = .ok (.aload_n 1, 1) := by decide +kernel
theorem dX5_isWord_22 : decode cX5_isWord 22 = .ok (.invokevirtual 112, 3) := by decide +kernel
theorem dX5_isWord_25 : decode cX5_isWord 25 = .ok (.if_icmp .ge 30, 3) := by decide +kernel
theorem dX5_isWord_28 : decode cX5_isWord 28 = .ok (.aload_n 0, 1) := by decide +kernel
theorem dX5_isWord_29 : decode cX5_isWord 29 = .ok (.getfield 9, 3) := by decide +kernel
theorem dX5_isWord_32 : decode cX5_isWord 32 = .ok (.aload_n 0, 1) := by decide +kernel
theorem dX5_isWord_33 : decode cX5_isWord 33 = .ok (.getfield 25, 3) := by decide +kernel
theorem dX5_isWord_36 : decode cX5_isWord 36 = .ok (.iload_n 2, 1) := by decide +kernel
theorem dX5_isWord_37 : decode cX5_isWord 37 = .ok (.iadd, 1) := by decide +kernel
theorem dX5_isWord_38 : decode cX5_isWord 38 = .ok (.baload, 1) := by decide +kernel
theorem dX5_isWord_39 : decode cX5_isWord 39 = .ok (.aload_n 1, 1) := by decide +kernel
theorem dX5_isWord_40 : decode cX5_isWord 40 = .ok (.iload_n 2, 1) := by decide +kernel
theorem dX5_isWord_41 : decode cX5_isWord 41 = .ok (.invokevirtual 117, 3) := by decide +kernel
theorem dX5_isWord_44 : decode cX5_isWord 44 = .ok (.if_icmp .eq 5, 3) := by decide +kernel
theorem dX5_isWord_47 : decode cX5_isWord 47 = .ok (.iconst 0, 1) := by decide +kernel
theorem dX5_isWord_48 : decode cX5_isWord 48 = .ok (.ireturn, 1) := by decide +kernel
theorem dX5_isWord_49 : decode cX5_isWord 49 = .ok (.iinc 2 1, 3) := by decide +kernel
theorem dX5_isWord_52 : decode cX5_isWord 52 = .ok (.goto (-32), 3) := by decide +kernel
theorem dX5_isWord_55 : decode cX5_isWord 55 = .ok (.iconst 1, 1) := by decide +kernel
theorem dX5_isWord_56 : decode cX5_isWord 56 = .ok (.ireturn, 1) := by decide +kernel
theorem dX5_isLetter_0 : decode cX5_isLetter 0 = .ok (.iload_n 0, 1) := by decide +kernel
theorem dX5_isLetter_1 : decode cX5_isLetter 1 = .ok (.bipush 97, 2) := by decide +kernel
theorem dX5_isLetter_3 : decode cX5_isLetter 3 = .ok (.if_icmp .lt 13, 3) := by decide +kernel
theorem dX5_isLetter_6 : decode cX5_isLetter 6 = .ok (.iload_n 0, 1) := by decide +kernel
theorem dX5_isLetter_7 : decode cX5_isLetter 7 = .ok (.bipush 122, 2) := by decide +kernel
theorem dX5_isLetter_9 : decode cX5_isLetter 9 = .ok (.if_icmp .gt 7, 3) := by decide +kernel
theorem dX5_isLetter_12 : decode cX5_isLetter 12 = .ok (.iconst 1, 1) := by decide +kernel
theorem dX5_isLetter_13 : decode cX5_isLetter 13 = .ok (.goto 4, 3) := by decide +kernel
theorem dX5_isLetter_16 : decode cX5_isLetter 16 = .ok (.iconst 0, 1) := by decide +kernel
theorem dX5_isLetter_17 : decode cX5_isLetter 17 = .ok (.ireturn, 1) := by decide +kernel
theorem dX5_isFigure_0 : decode cX5_isFigure 0 = .ok (.iload_n 0, 1) := by decide +kernel
theorem dX5_isFigure_1 : decode cX5_isFigure 1 = .ok (.bipush 48, 2) := by decide +kernel
theorem dX5_isFigure_3 : decode cX5_isFigure 3 = .ok (.if_icmp .lt 13, 3) := by decide +kernel
theorem dX5_isFigure_6 : decode cX5_isFigure 6 = .ok (.iload_n 0, 1) := by decide +kernel
theorem dX5_isFigure_7 : decode cX5_isFigure 7 = .ok (.bipush 57, 2) := by decide +kernel
theorem dX5_isFigure_9 : decode cX5_isFigure 9 = .ok (.if_icmp .gt 7, 3) := by decide +kernel
theorem dX5_isFigure_12 : decode cX5_isFigure 12 = .ok (.iconst 1, 1) := by decide +kernel
theorem dX5_isFigure_13 : decode cX5_isFigure 13 = .ok (.goto 4, 3) := by decide +kernel
theorem dX5_isFigure_16 : decode cX5_isFigure 16 = .ok (.iconst 0, 1) := by decide +kernel
theorem dX5_isFigure_17 : decode cX5_isFigure 17 = .ok (.ireturn, 1) := by decide +kernel
