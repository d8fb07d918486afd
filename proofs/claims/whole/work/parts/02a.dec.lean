/-! the instructions, decoded; printed by wip/gen/dec.py -/
theorem dX0_init_0 : decode cX0_init 0 = .ok (.aload_n 0, 1) := by decide +kernel
theorem dX0_init_1 : decode cX0_init 1 = .ok (.invokespecial 3, 3) := by decide +kernel
theorem dX0_init_4 : decode cX0_init 4 = .ok (.aload_n 0, 1) := by decide +kernel
theorem dX0_init_5 : decode cX0_init 5 = .ok (.bipush 64, 2) := by decide +kernel
theorem dX0_init_7 : decode cX0_init 7 = .ok (.newarray .int, 2) := by decide +kernel
theorem dX0_init_9 : decode cX0_init 9 = .ok (.putfield 9, 3) := by decide +kernel
theorem dX0_init_12 : decode cX0_init 12 = .ok (.aload_n 0, 1) := by decide +kernel
theorem dX0_init_13 : decode cX0_init 13 = .ok (.bipush 64, 2) := by decide +kernel
theorem dX0_init_15 : decode cX0_init 15 = .ok (.newarray .int, 2) := by decide +kernel
theorem dX0_init_17 : decode cX0_init 17 = .ok (.putfield 15, 3) := by decide +kernel
theorem dX0_init_20 : decode cX0_init 20 = .ok (.aload_n 0, 1) := by decide +kernel
theorem dX0_init_21 : decode cX0_init 21 = .ok (.bipush 8, 2) := by decide +kernel
theorem dX0_init_23 : decode cX0_init 23 = .ok (.newarray .int, 2) := by decide +kernel
theorem dX0_init_25 : decode cX0_init 25 = .ok (.putfield 18, 3) := by decide +kernel
theorem dX0_init_28 : decode cX0_init 28 = .ok (.aload_n 0, 1) := by decide +kernel
theorem dX0_init_29 : decode cX0_init 29 = .ok (.bipush 8, 2) := by decide +kernel
theorem dX0_init_31 : decode cX0_init 31 = .ok (.newarray .int, 2) := by decide +kernel
theorem dX0_init_33 : decode cX0_init 33 = .ok (.putfield 21, 3) := by decide +kernel
theorem dX0_init_36 : decode cX0_init 36 = .ok (.return_, 1) := by decide +kernel
theorem dX0_work_0 : decode cX0_work 0 = .ok (.iconst 0, 1) := by decide +kernel
theorem dX0_work_1 : decode cX0_work 1 = .ok (.istore 4, 2) := by decide +kernel
theorem dX0_work_3 : decode cX0_work 3 = .ok (.iload 4, 2) := by decide +kernel
theorem dX0_work_5 : decode cX0_work 5 = .ok (.bipush 8, 2) := by decide +kernel
theorem dX0_work_7 : decode cX0_work 7 = .ok (.if_icmp .ge 25, 3) := by decide +kernel
theorem dX0_work_10 : decode cX0_work 10 = .ok (.aload_n 0, 1) := by decide +kernel
theorem dX0_work_11 : decode cX0_work 11 = .ok (.getfield 18, 3) := by decide +kernel
theorem dX0_work_14 : decode cX0_work 14 = .ok (.iload 4, 2) := by decide +kernel
theorem dX0_work_16 : decode cX0_work 16 = .ok (.iconst 0, 1) := by decide +kernel
theorem dX0_work_17 : decode cX0_work 17 = .ok (.iastore, 1) := by decide +kernel
theorem dX0_work_18 : decode cX0_work 18 = .ok (.aload_n 0, 1) := by decide +kernel
theorem dX0_work_19 : decode cX0_work 19 = .ok (.getfield 21, 3) := by decide +kernel
theorem dX0_work_22 : decode cX0_work 22 = .ok (.iload 4, 2) := by decide +kernel
theorem dX0_work_24 : decode cX0_work 24 = .ok (.iconst 0, 1) := by decide +kernel
theorem dX0_work_25 : decode cX0_work 25 = .ok (.iastore, 1) := by decide +kernel
theorem dX0_work_26 : decode cX0_work 26 = .ok (.iinc 4 1, 3) := by decide +kernel
theorem dX0_work_29 : decode cX0_work 29 = .ok (.goto (-26), 3) := by decide +kernel
theorem dX0_work_32 : decode cX0_work 32 = .ok (.iconst 0, 1) := by decide +kernel
theorem dX0_work_33 : decode cX0_work 33 = .ok (.istore 4, 2) := by decide +kernel
theorem dX0_work_35 : decode cX0_work 35 = .ok (.iload 4, 2) := by decide +kernel
theorem dX0_work_37 : decode cX0_work 37 = .ok (.bipush 8, 2) := by decide +kernel
theorem dX0_work_39 : decode cX0_work 39 = .ok (.if_icmp .ge 117, 3) := by decide +kernel
theorem dX0_work_42 : decode cX0_work 42 = .ok (.iconst 0, 1) := by decide +kernel
theorem dX0_work_43 : decode cX0_work 43 = .ok (.istore 5, 2) := by decide +kernel
theorem dX0_work_45 : decode cX0_work 45 = .ok (.iload 5, 2) := by decide +kernel
theorem dX0_work_47 : decode cX0_work 47 = .ok (.bipush 8, 2) := by decide +kernel
theorem dX0_work_49 : decode cX0_work 49 = .ok (.if_icmp .ge 101, 3) := by decide +kernel
theorem dX0_work_52 : decode cX0_work 52 = .ok (.aload_n 1, 1) := by decide +kernel
theorem dX0_work_53 : decode cX0_work 53 = .ok (.iload_n 2, 1) := by decide +kernel
theorem dX0_work_54 : decode cX0_work 54 = .ok (.iload 4, 2) := by decide +kernel
theorem dX0_work_56 : decode cX0_work 56 = .ok (.iload_n 3, 1) := by decide +kernel
theorem dX0_work_57 : decode cX0_work 57 = .ok (.iload 5, 2) := by decide +kernel
theorem dX0_work_59 : decode cX0_work 59 = .ok (.invokestatic 24, 3) := by decide +kernel
theorem dX0_work_62 : decode cX0_work 62 = .ok (.istore 6, 2) := by decide +kernel
theorem dX0_work_64 : decode cX0_work 64 = .ok (.aload_n 1, 1) := by decide +kernel
theorem dX0_work_65 : decode cX0_work 65 = .ok (.iload_n 3, 1) := by decide +kernel
theorem dX0_work_66 : decode cX0_work 66 = .ok (.iload 5, 2) := by decide +kernel
theorem dX0_work_68 : decode cX0_work 68 = .ok (.iload_n 2, 1) := by decide +kernel
theorem dX0_work_69 : decode cX0_work 69 = .ok (.iload 4, 2) := by decide +kernel
theorem dX0_work_71 : decode cX0_work 71 = .ok (.invokestatic 24, 3) := by decide +kernel
theorem dX0_work_74 : decode cX0_work 74 = .ok (.istore 7, 2) := by decide +kernel
theorem dX0_work_76 : decode cX0_work 76 = .ok (.aload_n 0, 1) := by decide +kernel
theorem dX0_work_77 : decode cX0_work 77 = .ok (.getfield 9, 3) := by decide +kernel
theorem dX0_work_80 : decode cX0_work 80 = .ok (.bipush 8, 2) := by decide +kernel
theorem dX0_work_82 : decode cX0_work 82 = .ok (.iload 4, 2) := by decide +kernel
theorem dX0_work_84 : decode cX0_work 84 = .ok (.imul, 1) := by decide +kernel
theorem dX0_work_85 : decode cX0_work 85 = .ok (.iload 5, 2) := by decide +kernel
theorem dX0_work_87 : decode cX0_work 87 = .ok (.iadd, 1) := by decide +kernel
theorem dX0_work_88 : decode cX0_work 88 = .ok (.iload 6, 2) := by decide +kernel
theorem dX0_work_90 : decode cX0_work 90 = .ok (.iastore, 1) := by decide +kernel
theorem dX0_work_91 : decode cX0_work 91 = .ok (.aload_n 0, 1) := by decide +kernel
theorem dX0_work_92 : decode cX0_work 92 = .ok (.getfield 15, 3) := by decide +kernel
theorem dX0_work_95 : decode cX0_work 95 = .ok (.bipush 8, 2) := by decide +kernel
theorem dX0_work_97 : decode cX0_work 97 = .ok (.iload 4, 2) := by decide +kernel
theorem dX0_work_99 : decode cX0_work 99 = .ok (.imul, 1) := by decide +kernel
theorem dX0_work_100 : decode cX0_work 100 = .ok (.iload 5, 2) := by decide +kernel
theorem dX0_work_102 : decode cX0_work 102 = .ok (.iadd, 1) := by decide +kernel
theorem dX0_work_103 : decode cX0_work 103 = .ok (.iload 7, 2) := by decide +kernel
theorem dX0_work_105 : decode cX0_work 105 = .ok (.iastore, 1) := by decide +kernel
theorem dX0_work_106 : decode cX0_work 106 = .ok (.aload_n 0, 1) := by decide +kernel
theorem dX0_work_107 : decode cX0_work 107 = .ok (.getfield 18, 3) := by decide +kernel
theorem dX0_work_110 : decode cX0_work 110 = .ok (.iload 5, 2) := by decide +kernel
theorem dX0_work_112 : decode cX0_work 112 = .ok (.aload_n 0, 1) := by decide +kernel
theorem dX0_work_113 : decode cX0_work 113 = .ok (.getfield 18, 3) := by decide +kernel
theorem dX0_work_116 : decode cX0_work 116 = .ok (.iload 5, 2) := by decide +kernel
theorem dX0_work_118 : decode cX0_work 118 = .ok (.iaload, 1) := by decide +kernel
theorem dX0_work_119 : decode cX0_work 119 = .ok (.iload 6, 2) := by decide +kernel
theorem dX0_work_121 : decode cX0_work 121 = .ok (.invokestatic 28, 3) := by decide +kernel
theorem dX0_work_124 : decode cX0_work 124 = .ok (.iastore, 1) := by decide +kernel
theorem dX0_work_125 : decode cX0_work 125 = .ok (.aload_n 0, 1) := by decide +kernel
theorem dX0_work_126 : decode cX0_work 126 = .ok (.getfield 21, 3) := by decide +kernel
theorem dX0_work_129 : decode cX0_work 129 = .ok (.iload 4, 2) := by decide +kernel
theorem dX0_work_131 : decode cX0_work 131 = .ok (.aload_n 0, 1) := by decide +kernel
theorem dX0_work_132 : decode cX0_work 132 = .ok (.getfield 21, 3) := by decide +kernel
theorem dX0_work_135 : decode cX0_work 135 = .ok (.iload 4, 2) := by decide +kernel
theorem dX0_work_137 : decode cX0_work 137 = .ok (.iaload, 1) := by decide +kernel
theorem dX0_work_138 : decode cX0_work 138 = .ok (.iload 7, 2) := by decide +kernel
theorem dX0_work_140 : decode cX0_work 140 = .ok (.invokestatic 28, 3) := by decide +kernel
theorem dX0_work_143 : decode cX0_work 143 = .ok (.iastore, 1) := by decide +kernel
theorem dX0_work_144 : decode cX0_work 144 = .ok (.iinc 5 1, 3) := by decide +kernel
theorem dX0_work_147 : decode cX0_work 147 = .ok (.goto (-102), 3) := by decide +kernel
theorem dX0_work_150 : decode cX0_work 150 = .ok (.iinc 4 1, 3) := by decide +kernel
theorem dX0_work_153 : decode cX0_work 153 = .ok (.goto (-118), 3) := by decide +kernel
theorem dX0_work_156 : decode cX0_work 156 = .ok (.return_, 1) := by decide +kernel
theorem dX0_rests_0 : decode cX0_rests 0 = .ok (.aload_n 0, 1) := by decide +kernel
theorem dX0_rests_1 : decode cX0_rests 1 = .ok (.getfield 9, 3) := by decide +kernel
theorem dX0_rests_4 : decode cX0_rests 4 = .ok (.bipush 8, 2) := by decide +kernel
theorem dX0_rests_6 : decode cX0_rests 6 = .ok (.iload_n 1, 1) := by decide +kernel
theorem dX0_rests_7 : decode cX0_rests 7 = .ok (.imul, 1) := by decide +kernel
theorem dX0_rests_8 : decode cX0_rests 8 = .ok (.iload_n 2, 1) := by decide +kernel
theorem dX0_rests_9 : decode cX0_rests 9 = .ok (.iadd, 1) := by decide +kernel
theorem dX0_rests_10 : decode cX0_rests 10 = .ok (.iaload, 1) := by decide +kernel
theorem dX0_rests_11 : decode cX0_rests 11 = .ok (.aload_n 0, 1) := by decide +kernel
theorem dX0_rests_12 : decode cX0_rests 12 = .ok (.getfield 18, 3) := by decide +kernel
theorem dX0_rests_15 : decode cX0_rests 15 = .ok (.iload_n 2, 1) := by decide +kernel
theorem dX0_rests_16 : decode cX0_rests 16 = .ok (.iaload, 1) := by decide +kernel
theorem dX0_rests_17 : decode cX0_rests 17 = .ok (.if_icmp .ne 27, 3) := by decide +kernel
theorem dX0_rests_20 : decode cX0_rests 20 = .ok (.aload_n 0, 1) := by decide +kernel
theorem dX0_rests_21 : decode cX0_rests 21 = .ok (.getfield 15, 3) := by decide +kernel
theorem dX0_rests_24 : decode cX0_rests 24 = .ok (.bipush 8, 2) := by decide +kernel
theorem dX0_rests_26 : decode cX0_rests 26 = .ok (.iload_n 1, 1) := by decide +kernel
theorem dX0_rests_27 : decode cX0_rests 27 = .ok (.imul, 1) := by decide +kernel
theorem dX0_rests_28 : decode cX0_rests 28 = .ok (.iload_n 2, 1) := by decide +kernel
theorem dX0_rests_29 : decode cX0_rests 29 = .ok (.iadd, 1) := by decide +kernel
theorem dX0_rests_30 : decode cX0_rests 30 = .ok (.iaload, 1) := by decide +kernel
theorem dX0_rests_31 : decode cX0_rests 31 = .ok (.aload_n 0, 1) := by decide +kernel
theorem dX0_rests_32 : decode cX0_rests 32 = .ok (.getfield 21, 3) := by decide +kernel
theorem dX0_rests_35 : decode cX0_rests 35 = .ok (.iload_n 1, 1) := by decide +kernel
theorem dX0_rests_36 : decode cX0_rests 36 = .ok (.iaload, 1) := by decide +kernel
theorem dX0_rests_37 : decode cX0_rests 37 = .ok (.if_icmp .ne 7, 3) := by decide +kernel
theorem dX0_rests_40 : decode cX0_rests 40 = .ok (.iconst 1, 1) := by decide +kernel
theorem dX0_rests_41 : decode cX0_rests 41 = .ok (.goto 4, 3) := by decide +kernel
theorem dX0_rests_44 : decode cX0_rests 44 = .ok (.iconst 0, 1) := by decide +kernel
theorem dX0_rests_45 : decode cX0_rests 45 = .ok (.ireturn, 1) := by decide +kernel
theorem dX0_gets_0 : decode cX0_gets 0 = .ok (.iload_n 2, 1) := by decide +kernel
theorem dX0_gets_1 : decode cX0_gets 1 = .ok (.iload 4, 2) := by decide +kernel
theorem dX0_gets_3 : decode cX0_gets 3 = .ok (.if_icmp .eq 14, 3) := by decide +kernel
theorem dX0_gets_6 : decode cX0_gets 6 = .ok (.aload_n 0, 1) := by decide +kernel
theorem dX0_gets_7 : decode cX0_gets 7 = .ok (.iload_n 3, 1) := by decide +kernel
theorem dX0_gets_8 : decode cX0_gets 8 = .ok (.iload 4, 2) := by decide +kernel
theorem dX0_gets_10 : decode cX0_gets 10 = .ok (.iload_n 2, 1) := by decide +kernel
theorem dX0_gets_11 : decode cX0_gets 11 = .ok (.invokevirtual 34, 3) := by decide +kernel
theorem dX0_gets_14 : decode cX0_gets 14 = .ok (.ifCond .eq 5, 3) := by decide +kernel
theorem dX0_gets_17 : decode cX0_gets 17 = .ok (.iconst 0, 1) := by decide +kernel
theorem dX0_gets_18 : decode cX0_gets 18 = .ok (.ireturn, 1) := by decide +kernel
theorem dX0_gets_19 : decode cX0_gets 19 = .ok (.aload_n 0, 1) := by decide +kernel
theorem dX0_gets_20 : decode cX0_gets 20 = .ok (.getfield 40, 3) := by decide +kernel
theorem dX0_gets_23 : decode cX0_gets 23 = .ok (.iload_n 1, 1) := by decide +kernel
theorem dX0_gets_24 : decode cX0_gets 24 = .ok (.iaload, 1) := by decide +kernel
theorem dX0_gets_25 : decode cX0_gets 25 = .ok (.aload_n 0, 1) := by decide +kernel
theorem dX0_gets_26 : decode cX0_gets 26 = .ok (.iload_n 2, 1) := by decide +kernel
theorem dX0_gets_27 : decode cX0_gets 27 = .ok (.invokevirtual 43, 3) := by decide +kernel
theorem dX0_gets_30 : decode cX0_gets 30 = .ok (.aload_n 0, 1) := by decide +kernel
theorem dX0_gets_31 : decode cX0_gets 31 = .ok (.getfield 47, 3) := by decide +kernel
theorem dX0_gets_34 : decode cX0_gets 34 = .ok (.iload_n 2, 1) := by decide +kernel
theorem dX0_gets_35 : decode cX0_gets 35 = .ok (.iaload, 1) := by decide +kernel
theorem dX0_gets_36 : decode cX0_gets 36 = .ok (.invokestatic 50, 3) := by decide +kernel
theorem dX0_gets_39 : decode cX0_gets 39 = .ok (.ireturn, 1) := by decide +kernel
theorem dX1_init_0 : decode cX1_init 0 = .ok (.aload_n 0, 1) := by decide +kernel
theorem dX1_init_1 : decode cX1_init 1 = .ok (.invokespecial 3, 3) := by decide +kernel
theorem dX1_init_4 : decode cX1_init 4 = .ok (.aload_n 0, 1) := by decide +kernel
theorem dX1_init_5 : decode cX1_init 5 = .ok (.bipush 6, 2) := by decide +kernel
theorem dX1_init_7 : decode cX1_init 7 = .ok (.newarray .int, 2) := by decide +kernel
theorem dX1_init_9 : decode cX1_init 9 = .ok (.putfield 11, 3) := by decide +kernel
theorem dX1_init_12 : decode cX1_init 12 = .ok (.return_, 1) := by decide +kernel
theorem dX1_kindsOf_0 : decode cX1_kindsOf 0 = .ok (.iconst 0, 1) := by decide +kernel
theorem dX1_kindsOf_1 : decode cX1_kindsOf 1 = .ok (.istore_n 3, 1) := by decide +kernel
theorem dX1_kindsOf_2 : decode cX1_kindsOf 2 = .ok (.iconst 0, 1) := by decide +kernel
theorem dX1_kindsOf_3 : decode cX1_kindsOf 3 = .ok (.istore 4, 2) := by decide +kernel
theorem dX1_kindsOf_5 : decode cX1_kindsOf 5 = .ok (.iload 4, 2) := by decide +kernel
theorem dX1_kindsOf_7 : decode cX1_kindsOf 7 = .ok (.bipush 6, 2) := by decide +kernel
theorem dX1_kindsOf_9 : decode cX1_kindsOf 9 = .ok (.if_icmp .ge 26, 3) := by decide +kernel
theorem dX1_kindsOf_12 : decode cX1_kindsOf 12 = .ok (.aload_n 1, 1) := by decide +kernel
theorem dX1_kindsOf_13 : decode cX1_kindsOf 13 = .ok (.iload_n 2, 1) := by decide +kernel
theorem dX1_kindsOf_14 : decode cX1_kindsOf 14 = .ok (.iload 4, 2) := by decide +kernel
theorem dX1_kindsOf_16 : decode cX1_kindsOf 16 = .ok (.invokestatic 17, 3) := by decide +kernel
theorem dX1_kindsOf_19 : decode cX1_kindsOf 19 = .ok (.ifCond .eq 10, 3) := by decide +kernel
theorem dX1_kindsOf_22 : decode cX1_kindsOf 22 = .ok (.iload_n 3, 1) := by decide +kernel
theorem dX1_kindsOf_23 : decode cX1_kindsOf 23 = .ok (.iconst 1, 1) := by decide +kernel
theorem dX1_kindsOf_24 : decode cX1_kindsOf 24 = .ok (.iload 4, 2) := by decide +kernel
theorem dX1_kindsOf_26 : decode cX1_kindsOf 26 = .ok (.ishl, 1) := by decide +kernel
theorem dX1_kindsOf_27 : decode cX1_kindsOf 27 = .ok (.ior, 1) := by decide +kernel
theorem dX1_kindsOf_28 : decode cX1_kindsOf 28 = .ok (.istore_n 3, 1) := by decide +kernel
theorem dX1_kindsOf_29 : decode cX1_kindsOf 29 = .ok (.iinc 4 1, 3) := by decide +kernel
theorem dX1_kindsOf_32 : decode cX1_kindsOf 32 = .ok (.goto (-27), 3) := by decide +kernel
theorem dX1_kindsOf_35 : decode cX1_kindsOf 35 = .ok (.iload_n 3, 1) := by decide +kernel
theorem dX1_kindsOf_36 : decode cX1_kindsOf 36 = .ok (.ireturn, 1) := by decide +kernel
theorem dX1_nextFor_0 : decode cX1_nextFor 0 = .ok (.aload_n 0, 1) := by decide +kernel
theorem dX1_nextFor_1 : decode cX1_nextFor 1 = .ok (.aload_n 1, 1) := by decide +kernel
theorem dX1_nextFor_2 : decode cX1_nextFor 2 = .ok (.iload_n 2, 1) := by decide +kernel
theorem dX1_nextFor_3 : decode cX1_nextFor 3 = .ok (.invokevirtual 21, 3) := by decide +kernel
theorem dX1_nextFor_6 : decode cX1_nextFor 6 = .ok (.istore_n 3, 1) := by decide +kernel
theorem dX1_nextFor_7 : decode cX1_nextFor 7 = .ok (.iload_n 3, 1) := by decide +kernel
theorem dX1_nextFor_8 : decode cX1_nextFor 8 = .ok (.ifCond .ne 5, 3) := by decide +kernel
theorem dX1_nextFor_11 : decode cX1_nextFor 11 = .ok (.iconst (-1), 1) := by decide +kernel
theorem dX1_nextFor_12 : decode cX1_nextFor 12 = .ok (.ireturn, 1) := by decide +kernel
theorem dX1_nextFor_13 : decode cX1_nextFor 13 = .ok (.iconst (-1), 1) := by decide +kernel
theorem dX1_nextFor_14 : decode cX1_nextFor 14 = .ok (.istore 4, 2) := by decide +kernel
theorem dX1_nextFor_16 : decode cX1_nextFor 16 = .ok (.bipush 7, 2) := by decide +kernel
theorem dX1_nextFor_18 : decode cX1_nextFor 18 = .ok (.istore 5, 2) := by decide +kernel
theorem dX1_nextFor_20 : decode cX1_nextFor 20 = .ok (.iconst 0, 1) := by decide +kernel
theorem dX1_nextFor_21 : decode cX1_nextFor 21 = .ok (.istore 6, 2) := by decide +kernel
theorem dX1_nextFor_23 : decode cX1_nextFor 23 = .ok (.iload 6, 2) := by decide +kernel
theorem dX1_nextFor_25 : decode cX1_nextFor 25 = .ok (.bipush 8, 2) := by decide +kernel
theorem dX1_nextFor_27 : decode cX1_nextFor 27 = .ok (.if_icmp .ge 65, 3) := by decide +kernel
theorem dX1_nextFor_30 : decode cX1_nextFor 30 = .ok (.aload_n 1, 1) := by decide +kernel
theorem dX1_nextFor_31 : decode cX1_nextFor 31 = .ok (.iload 6, 2) := by decide +kernel
theorem dX1_nextFor_33 : decode cX1_nextFor 33 = .ok (.invokevirtual 25, 3) := by decide +kernel
theorem dX1_nextFor_36 : decode cX1_nextFor 36 = .ok (.istore 7, 2) := by decide +kernel
theorem dX1_nextFor_38 : decode cX1_nextFor 38 = .ok (.iconst 0, 1) := by decide +kernel
theorem dX1_nextFor_39 : decode cX1_nextFor 39 = .ok (.istore 8, 2) := by decide +kernel
theorem dX1_nextFor_41 : decode cX1_nextFor 41 = .ok (.iload 8, 2) := by decide +kernel
theorem dX1_nextFor_43 : decode cX1_nextFor 43 = .ok (.bipush 9, 2) := by decide +kernel
theorem dX1_nextFor_45 : decode cX1_nextFor 45 = .ok (.if_icmp .gt 41, 3) := by decide +kernel
theorem dX1_nextFor_48 : decode cX1_nextFor 48 = .ok (.aload_n 0, 1) := by decide +kernel
theorem dX1_nextFor_49 : decode cX1_nextFor 49 = .ok (.iload_n 3, 1) := by decide +kernel
theorem dX1_nextFor_50 : decode cX1_nextFor 50 = .ok (.iload 7, 2) := by decide +kernel
theorem dX1_nextFor_52 : decode cX1_nextFor 52 = .ok (.iload 8, 2) := by decide +kernel
theorem dX1_nextFor_54 : decode cX1_nextFor 54 = .ok (.invokevirtual 31, 3) := by decide +kernel
theorem dX1_nextFor_57 : decode cX1_nextFor 57 = .ok (.istore 9, 2) := by decide +kernel
theorem dX1_nextFor_59 : decode cX1_nextFor 59 = .ok (.iload 9, 2) := by decide +kernel
theorem dX1_nextFor_61 : decode cX1_nextFor 61 = .ok (.iload 5, 2) := by decide +kernel
theorem dX1_nextFor_63 : decode cX1_nextFor 63 = .ok (.if_icmp .ge 17, 3) := by decide +kernel
theorem dX1_nextFor_66 : decode cX1_nextFor 66 = .ok (.iload 9, 2) := by decide +kernel
theorem dX1_nextFor_68 : decode cX1_nextFor 68 = .ok (.istore 5, 2) := by decide +kernel
theorem dX1_nextFor_70 : decode cX1_nextFor 70 = .ok (.bipush 10, 2) := by decide +kernel
theorem dX1_nextFor_72 : decode cX1_nextFor 72 = .ok (.iload 6, 2) := by decide +kernel
theorem dX1_nextFor_74 : decode cX1_nextFor 74 = .ok (.imul, 1) := by decide +kernel
theorem dX1_nextFor_75 : decode cX1_nextFor 75 = .ok (.iload 8, 2) := by decide +kernel
theorem dX1_nextFor_77 : decode cX1_nextFor 77 = .ok (.iadd, 1) := by decide +kernel
theorem dX1_nextFor_78 : decode cX1_nextFor 78 = .ok (.istore 4, 2) := by decide +kernel
theorem dX1_nextFor_80 : decode cX1_nextFor 80 = .ok (.iinc 8 1, 3) := by decide +kernel
theorem dX1_nextFor_83 : decode cX1_nextFor 83 = .ok (.goto (-42), 3) := by decide +kernel
theorem dX1_nextFor_86 : decode cX1_nextFor 86 = .ok (.iinc 6 1, 3) := by decide +kernel
theorem dX1_nextFor_89 : decode cX1_nextFor 89 = .ok (.goto (-66), 3) := by decide +kernel
theorem dX1_nextFor_92 : decode cX1_nextFor 92 = .ok (.iload 4, 2) := by decide +kernel
theorem dX1_nextFor_94 : decode cX1_nextFor 94 = .ok (.ireturn, 1) := by decide +kernel
theorem dX1_fits_0 : decode cX1_fits 0 = .ok (.iconst 0, 1) := by decide +kernel
theorem dX1_fits_1 : decode cX1_fits 1 = .ok (.istore_n 3, 1) := by decide +kernel
theorem dX1_fits_2 : decode cX1_fits 2 = .ok (.iload_n 3, 1) := by decide +kernel
theorem dX1_fits_3 : decode cX1_fits 3 = .ok (.aload_n 0, 1) := by decide +kernel
theorem dX1_fits_4 : decode cX1_fits 4 = .ok (.getfield 35, 3) := by decide +kernel
theorem dX1_fits_7 : decode cX1_fits 7 = .ok (.if_icmp .ge 61, 3) := by decide +kernel
theorem dX1_fits_10 : decode cX1_fits 10 = .ok (.iload_n 3, 1) := by decide +kernel
theorem dX1_fits_11 : decode cX1_fits 11 = .ok (.iconst 4, 1) := by decide +kernel
theorem dX1_fits_12 : decode cX1_fits 12 = .ok (.imul, 1) := by decide +kernel
theorem dX1_fits_13 : decode cX1_fits 13 = .ok (.istore 4, 2) := by decide +kernel
theorem dX1_fits_15 : decode cX1_fits 15 = .ok (.aload_n 0, 1) := by decide +kernel
theorem dX1_fits_16 : decode cX1_fits 16 = .ok (.getfield 39, 3) := by decide +kernel
theorem dX1_fits_19 : decode cX1_fits 19 = .ok (.iload 4, 2) := by decide +kernel
theorem dX1_fits_21 : decode cX1_fits 21 = .ok (.iaload, 1) := by decide +kernel
theorem dX1_fits_22 : decode cX1_fits 22 = .ok (.iload_n 1, 1) := by decide +kernel
theorem dX1_fits_23 : decode cX1_fits 23 = .ok (.if_icmp .ne 39, 3) := by decide +kernel
theorem dX1_fits_26 : decode cX1_fits 26 = .ok (.iload_n 2, 1) := by decide +kernel
theorem dX1_fits_27 : decode cX1_fits 27 = .ok (.aload_n 0, 1) := by decide +kernel
theorem dX1_fits_28 : decode cX1_fits 28 = .ok (.getfield 39, 3) := by decide +kernel
theorem dX1_fits_31 : decode cX1_fits 31 = .ok (.iload 4, 2) := by decide +kernel
theorem dX1_fits_33 : decode cX1_fits 33 = .ok (.iconst 1, 1) := by decide +kernel
theorem dX1_fits_34 : decode cX1_fits 34 = .ok (.iadd, 1) := by decide +kernel
theorem dX1_fits_35 : decode cX1_fits 35 = .ok (.iaload, 1) := by decide +kernel
theorem dX1_fits_36 : decode cX1_fits 36 = .ok (.aload_n 0, 1) := by decide +kernel
theorem dX1_fits_37 : decode cX1_fits 37 = .ok (.getfield 39, 3) := by decide +kernel
theorem dX1_fits_40 : decode cX1_fits 40 = .ok (.iload 4, 2) := by decide +kernel
theorem dX1_fits_42 : decode cX1_fits 42 = .ok (.iconst 2, 1) := by decide +kernel
theorem dX1_fits_43 : decode cX1_fits 43 = .ok (.iadd, 1) := by decide +kernel
theorem dX1_fits_44 : decode cX1_fits 44 = .ok (.iaload, 1) := by decide +kernel
theorem dX1_fits_45 : decode cX1_fits 45 = .ok (.invokestatic 42, 3) := by decide +kernel
theorem dX1_fits_48 : decode cX1_fits 48 = .ok (.aload_n 0, 1) := by decide +kernel
theorem dX1_fits_49 : decode cX1_fits 49 = .ok (.getfield 39, 3) := by decide +kernel
theorem dX1_fits_52 : decode cX1_fits 52 = .ok (.iload 4, 2) := by decide +kernel
theorem dX1_fits_54 : decode cX1_fits 54 = .ok (.iconst 3, 1) := by decide +kernel
theorem dX1_fits_55 : decode cX1_fits 55 = .ok (.iadd, 1) := by decide +kernel
theorem dX1_fits_56 : decode cX1_fits 56 = .ok (.iaload, 1) := by decide +kernel
theorem dX1_fits_57 : decode cX1_fits 57 = .ok (.if_icmp .eq 5, 3) := by decide +kernel
theorem dX1_fits_60 : decode cX1_fits 60 = .ok (.iconst 0, 1) := by decide +kernel
theorem dX1_fits_61 : decode cX1_fits 61 = .ok (.ireturn, 1) := by decide +kernel
theorem dX1_fits_62 : decode cX1_fits 62 = .ok (.iinc 3 1, 3) := by decide +kernel
theorem dX1_fits_65 : decode cX1_fits 65 = .ok (.goto (-63), 3) := by decide +kernel
theorem dX1_fits_68 : decode cX1_fits 68 = .ok (.iconst 1, 1) := by decide +kernel
theorem dX1_fits_69 : decode cX1_fits 69 = .ok (.ireturn, 1) := by decide +kernel
theorem dX1_mostAlike_0 : decode cX1_mostAlike 0 = .ok (.iconst 0, 1) := by decide +kernel
theorem dX1_mostAlike_1 : decode cX1_mostAlike 1 = .ok (.istore 4, 2) := by decide +kernel
theorem dX1_mostAlike_3 : decode cX1_mostAlike 3 = .ok (.iload 4, 2) := by decide +kernel
theorem dX1_mostAlike_5 : decode cX1_mostAlike 5 = .ok (.bipush 6, 2) := by decide +kernel
theorem dX1_mostAlike_7 : decode cX1_mostAlike 7 = .ok (.if_icmp .ge 37, 3) := by decide +kernel
theorem dX1_mostAlike_10 : decode cX1_mostAlike 10 = .ok (.aload_n 0, 1) := by decide +kernel
theorem dX1_mostAlike_11 : decode cX1_mostAlike 11 = .ok (.getfield 11, 3) := by decide +kernel
theorem dX1_mostAlike_14 : decode cX1_mostAlike 14 = .ok (.iload 4, 2) := by decide +kernel
theorem dX1_mostAlike_16 : decode cX1_mostAlike 16 = .ok (.iload_n 1, 1) := by decide +kernel
theorem dX1_mostAlike_17 : decode cX1_mostAlike 17 = .ok (.iload 4, 2) := by decide +kernel
theorem dX1_mostAlike_19 : decode cX1_mostAlike 19 = .ok (.ishr, 1) := by decide +kernel
theorem dX1_mostAlike_20 : decode cX1_mostAlike 20 = .ok (.iconst 1, 1) := by decide +kernel
theorem dX1_mostAlike_21 : decode cX1_mostAlike 21 = .ok (.iand, 1) := by decide +kernel
theorem dX1_mostAlike_22 : decode cX1_mostAlike 22 = .ok (.iconst 1, 1) := by decide +kernel
theorem dX1_mostAlike_23 : decode cX1_mostAlike 23 = .ok (.if_icmp .ne 13, 3) := by decide +kernel
theorem dX1_mostAlike_26 : decode cX1_mostAlike 26 = .ok (.iload 4, 2) := by decide +kernel
theorem dX1_mostAlike_28 : decode cX1_mostAlike 28 = .ok (.iload_n 2, 1) := by decide +kernel
theorem dX1_mostAlike_29 : decode cX1_mostAlike 29 = .ok (.iload_n 3, 1) := by decide +kernel
theorem dX1_mostAlike_30 : decode cX1_mostAlike 30 = .ok (.invokestatic 42, 3) := by decide +kernel
theorem dX1_mostAlike_33 : decode cX1_mostAlike 33 = .ok (.goto 4, 3) := by decide +kernel
theorem dX1_mostAlike_36 : decode cX1_mostAlike 36 = .ok (.iconst (-1), 1) := by decide +kernel
theorem dX1_mostAlike_37 : decode cX1_mostAlike 37 = .ok (.iastore, 1) := by decide +kernel
theorem dX1_mostAlike_38 : decode cX1_mostAlike 38 = .ok (.iinc 4 1, 3) := by decide +kernel
theorem dX1_mostAlike_41 : decode cX1_mostAlike 41 = .ok (.goto (-38), 3) := by decide +kernel
theorem dX1_mostAlike_44 : decode cX1_mostAlike 44 = .ok (.iconst 0, 1) := by decide +kernel
theorem dX1_mostAlike_45 : decode cX1_mostAlike 45 = .ok (.istore 4, 2) := by decide +kernel
theorem dX1_mostAlike_47 : decode cX1_mostAlike 47 = .ok (.iconst 0, 1) := by decide +kernel
theorem dX1_mostAlike_48 : decode cX1_mostAlike 48 = .ok (.istore 5, 2) := by decide +kernel
theorem dX1_mostAlike_50 : decode cX1_mostAlike 50 = .ok (.iload 5, 2) := by decide +kernel
theorem dX1_mostAlike_52 : decode cX1_mostAlike 52 = .ok (.bipush 6, 2) := by decide +kernel
theorem dX1_mostAlike_54 : decode cX1_mostAlike 54 = .ok (.if_icmp .ge 33, 3) := by decide +kernel
theorem dX1_mostAlike_57 : decode cX1_mostAlike 57 = .ok (.aload_n 0, 1) := by decide +kernel
theorem dX1_mostAlike_58 : decode cX1_mostAlike 58 = .ok (.getfield 11, 3) := by decide +kernel
theorem dX1_mostAlike_61 : decode cX1_mostAlike 61 = .ok (.iload 5, 2) := by decide +kernel
theorem dX1_mostAlike_63 : decode cX1_mostAlike 63 = .ok (.iaload, 1) := by decide +kernel
theorem dX1_mostAlike_64 : decode cX1_mostAlike 64 = .ok (.iconst (-1), 1) := by decide +kernel
theorem dX1_mostAlike_65 : decode cX1_mostAlike 65 = .ok (.if_icmp .eq 16, 3) := by decide +kernel
theorem dX1_mostAlike_68 : decode cX1_mostAlike 68 = .ok (.iload 4, 2) := by decide +kernel
theorem dX1_mostAlike_70 : decode cX1_mostAlike 70 = .ok (.aload_n 0, 1) := by decide +kernel
theorem dX1_mostAlike_71 : decode cX1_mostAlike 71 = .ok (.iload 5, 2) := by decide +kernel
theorem dX1_mostAlike_73 : decode cX1_mostAlike 73 = .ok (.invokevirtual 45, 3) := by decide +kernel
theorem dX1_mostAlike_76 : decode cX1_mostAlike 76 = .ok (.invokestatic 48, 3) := by decide +kernel
theorem dX1_mostAlike_79 : decode cX1_mostAlike 79 = .ok (.istore 4, 2) := by decide +kernel
theorem dX1_mostAlike_81 : decode cX1_mostAlike 81 = .ok (.iinc 5 1, 3) := by decide +kernel
theorem dX1_mostAlike_84 : decode cX1_mostAlike 84 = .ok (.goto (-34), 3) := by decide +kernel
theorem dX1_mostAlike_87 : decode cX1_mostAlike 87 = .ok (.iload 4, 2) := by decide +kernel
theorem dX1_mostAlike_89 : decode cX1_mostAlike 89 = .ok (.ireturn, 1) := by decide +kernel
theorem dX1_likeOnes_0 : decode cX1_likeOnes 0 = .ok (.iconst 0, 1) := by decide +kernel
theorem dX1_likeOnes_1 : decode cX1_likeOnes 1 = .ok (.istore_n 2, 1) := by decide +kernel
theorem dX1_likeOnes_2 : decode cX1_likeOnes 2 = .ok (.iconst 0, 1) := by decide +kernel
theorem dX1_likeOnes_3 : decode cX1_likeOnes 3 = .ok (.istore_n 3, 1) := by decide +kernel
theorem dX1_likeOnes_4 : decode cX1_likeOnes 4 = .ok (.iload_n 3, 1) := by decide +kernel
theorem dX1_likeOnes_5 : decode cX1_likeOnes 5 = .ok (.bipush 6, 2) := by decide +kernel
theorem dX1_likeOnes_7 : decode cX1_likeOnes 7 = .ok (.if_icmp .ge 27, 3) := by decide +kernel
theorem dX1_likeOnes_10 : decode cX1_likeOnes 10 = .ok (.aload_n 0, 1) := by decide +kernel
theorem dX1_likeOnes_11 : decode cX1_likeOnes 11 = .ok (.getfield 11, 3) := by decide +kernel
theorem dX1_likeOnes_14 : decode cX1_likeOnes 14 = .ok (.iload_n 3, 1) := by decide +kernel
theorem dX1_likeOnes_15 : decode cX1_likeOnes 15 = .ok (.iaload, 1) := by decide +kernel
theorem dX1_likeOnes_16 : decode cX1_likeOnes 16 = .ok (.aload_n 0, 1) := by decide +kernel
theorem dX1_likeOnes_17 : decode cX1_likeOnes 17 = .ok (.getfield 11, 3) := by decide +kernel
theorem dX1_likeOnes_20 : decode cX1_likeOnes 20 = .ok (.iload_n 1, 1) := by decide +kernel
theorem dX1_likeOnes_21 : decode cX1_likeOnes 21 = .ok (.iaload, 1) := by decide +kernel
theorem dX1_likeOnes_22 : decode cX1_likeOnes 22 = .ok (.if_icmp .ne 6, 3) := by decide +kernel
theorem dX1_likeOnes_25 : decode cX1_likeOnes 25 = .ok (.iinc 2 1, 3) := by decide +kernel
theorem dX1_likeOnes_28 : decode cX1_likeOnes 28 = .ok (.iinc 3 1, 3) := by decide +kernel
theorem dX1_likeOnes_31 : decode cX1_likeOnes 31 = .ok (.goto (-27), 3) := by decide +kernel
theorem dX1_likeOnes_34 : decode cX1_likeOnes 34 = .ok (.iload_n 2, 1) := by decide +kernel
theorem dX1_likeOnes_35 : decode cX1_likeOnes 35 = .ok (.ireturn, 1) := by decide +kernel
theorem dX2_init_0 : decode cX2_init 0 = .ok (.aload_n 0, 1) := by decide +kernel
theorem dX2_init_1 : decode cX2_init 1 = .ok (.invokespecial 3, 3) := by decide +kernel
theorem dX2_init_4 : decode cX2_init 4 = .ok (.aload_n 0, 1) := by decide +kernel
theorem dX2_init_5 : decode cX2_init 5 = .ok (.iconst 3, 1) := by decide +kernel
theorem dX2_init_6 : decode cX2_init 6 = .ok (.putfield 9, 3) := by decide +kernel
theorem dX2_init_9 : decode cX2_init 9 = .ok (.aload_n 0, 1) := by decide +kernel
theorem dX2_init_10 : decode cX2_init 10 = .ok (.sipush 240, 3) := by decide +kernel
theorem dX2_init_13 : decode cX2_init 13 = .ok (.putfield 15, 3) := by decide +kernel
theorem dX2_init_16 : decode cX2_init 16 = .ok (.aload_n 0, 1) := by decide +kernel
theorem dX2_init_17 : decode cX2_init 17 = .ok (.bipush 8, 2) := by decide +kernel
theorem dX2_init_19 : decode cX2_init 19 = .ok (.newarray .int, 2) := by decide +kernel
theorem dX2_init_21 : decode cX2_init 21 = .ok (.putfield 18, 3) := by decide +kernel
theorem dX2_init_24 : decode cX2_init 24 = .ok (.aload_n 0, 1) := by decide +kernel
theorem dX2_init_25 : decode cX2_init 25 = .ok (.iconst 0, 1) := by decide +kernel
theorem dX2_init_26 : decode cX2_init 26 = .ok (.putfield 22, 3) := by decide +kernel
theorem dX2_init_29 : decode cX2_init 29 = .ok (.aload_n 0, 1) := by decide +kernel
theorem dX2_init_30 : decode cX2_init 30 = .ok (.iconst 5, 1) := by decide +kernel
theorem dX2_init_31 : decode cX2_init 31 = .ok (.newarray .int, 2) := by decide +kernel
theorem dX2_init_33 : decode cX2_init 33 = .ok (.putfield 25, 3) := by decide +kernel
theorem dX2_init_36 : decode cX2_init 36 = .ok (.aload_n 0, 1) := by decide +kernel
theorem dX2_init_37 : decode cX2_init 37 = .ok (.iconst 5, 1) := by decide +kernel
theorem dX2_init_38 : decode cX2_init 38 = .ok (.newarray .int, 2) := by decide +kernel
theorem dX2_init_40 : decode cX2_init 40 = .ok (.putfield 28, 3) := by decide +kernel
theorem dX2_init_43 : decode cX2_init 43 = .ok (.aload_n 0, 1) := by decide +kernel
theorem dX2_init_44 : decode cX2_init 44 = .ok (.iconst 5, 1) := by decide +kernel
theorem dX2_init_45 : decode cX2_init 45 = .ok (.newarray .int, 2) := by decide +kernel
theorem dX2_init_47 : decode cX2_init 47 = .ok (.putfield 31, 3) := by decide +kernel
theorem dX2_init_50 : decode cX2_init 50 = .ok (.aload_n 0, 1) := by decide +kernel
theorem dX2_init_51 : decode cX2_init 51 = .ok (.iconst 5, 1) := by decide +kernel
theorem dX2_init_52 : decode cX2_init 52 = .ok (.newarray .int, 2) := by decide +kernel
theorem dX2_init_54 : decode cX2_init 54 = .ok (.putfield 34, 3) := by decide +kernel
theorem dX2_init_57 : decode cX2_init 57 = .ok (.aload_n 0, 1) := by decide +kernel
theorem dX2_init_58 : decode cX2_init 58 = .ok (.iconst 5, 1) := by decide +kernel
theorem dX2_init_59 : decode cX2_init 59 = .ok (.newarray .int, 2) := by decide +kernel
theorem dX2_init_61 : decode cX2_init 61 = .ok (.putfield 37, 3) := by decide +kernel
theorem dX2_init_64 : decode cX2_init 64 = .ok (.aload_n 0, 1) := by decide +kernel
theorem dX2_init_65 : decode cX2_init 65 = .ok (.iconst 0, 1) := by decide +kernel
theorem dX2_init_66 : decode cX2_init 66 = .ok (.putfield 40, 3) := by decide +kernel
theorem dX2_init_69 : decode cX2_init 69 = .ok (.aload_n 0, 1) := by decide +kernel
theorem dX2_init_70 : decode cX2_init 70 = .ok (.bipush 24, 2) := by decide +kernel
theorem dX2_init_72 : decode cX2_init 72 = .ok (.newarray .int, 2) := by decide +kernel
theorem dX2_init_74 : decode cX2_init 74 = .ok (.putfield 43, 3) := by decide +kernel
theorem dX2_init_77 : decode cX2_init 77 = .ok (.aload_n 0, 1) := by decide +kernel
theorem dX2_init_78 : decode cX2_init 78 = .ok (.iconst 0, 1) := by decide +kernel
theorem dX2_init_79 : decode cX2_init 79 = .ok (.putfield 46, 3) := by decide +kernel
theorem dX2_init_82 : decode cX2_init 82 = .ok (.aload_n 0, 1) := by decide +kernel
theorem dX2_init_83 : decode cX2_init 83 = .ok (.bipush 120, 2) := by decide +kernel
theorem dX2_init_85 : decode cX2_init 85 = .ok (.newarray .int, 2) := by decide +kernel
theorem dX2_init_87 : decode cX2_init 87 = .ok (.putfield 49, 3) := by decide +kernel
theorem dX2_init_90 : decode cX2_init 90 = .ok (.return_, 1) := by decide +kernel
theorem dX2_begin_0 : decode cX2_begin 0 = .ok (.aload_n 0, 1) := by decide +kernel
theorem dX2_begin_1 : decode cX2_begin 1 = .ok (.iload_n 1, 1) := by decide +kernel
theorem dX2_begin_2 : decode cX2_begin 2 = .ok (.putfield 9, 3) := by decide +kernel
theorem dX2_begin_5 : decode cX2_begin 5 = .ok (.aload_n 0, 1) := by decide +kernel
theorem dX2_begin_6 : decode cX2_begin 6 = .ok (.iload_n 2, 1) := by decide +kernel
theorem dX2_begin_7 : decode cX2_begin 7 = .ok (.putfield 15, 3) := by decide +kernel
theorem dX2_begin_10 : decode cX2_begin 10 = .ok (.iconst 0, 1) := by decide +kernel
theorem dX2_begin_11 : decode cX2_begin 11 = .ok (.istore_n 3, 1) := by decide +kernel
theorem dX2_begin_12 : decode cX2_begin 12 = .ok (.iload_n 3, 1) := by decide +kernel
theorem dX2_begin_13 : decode cX2_begin 13 = .ok (.bipush 8, 2) := by decide +kernel
theorem dX2_begin_15 : decode cX2_begin 15 = .ok (.if_icmp .ge 16, 3) := by decide +kernel
theorem dX2_begin_18 : decode cX2_begin 18 = .ok (.aload_n 0, 1) := by decide +kernel
theorem dX2_begin_19 : decode cX2_begin 19 = .ok (.getfield 18, 3) := by decide +kernel
theorem dX2_begin_22 : decode cX2_begin 22 = .ok (.iload_n 3, 1) := by decide +kernel
theorem dX2_begin_23 : decode cX2_begin 23 = .ok (.iconst 0, 1) := by decide +kernel
theorem dX2_begin_24 : decode cX2_begin 24 = .ok (.iastore, 1) := by decide +kernel
theorem dX2_begin_25 : decode cX2_begin 25 = .ok (.iinc 3 1, 3) := by decide +kernel
theorem dX2_begin_28 : decode cX2_begin 28 = .ok (.goto (-16), 3) := by decide +kernel
theorem dX2_begin_31 : decode cX2_begin 31 = .ok (.aload_n 0, 1) := by decide +kernel
theorem dX2_begin_32 : decode cX2_begin 32 = .ok (.iconst 0, 1) := by decide +kernel
theorem dX2_begin_33 : decode cX2_begin 33 = .ok (.putfield 22, 3) := by decide +kernel
theorem dX2_begin_36 : decode cX2_begin 36 = .ok (.aload_n 0, 1) := by decide +kernel
theorem dX2_begin_37 : decode cX2_begin 37 = .ok (.iconst 0, 1) := by decide +kernel
theorem dX2_begin_38 : decode cX2_begin 38 = .ok (.putfield 40, 3) := by decide +kernel
theorem dX2_begin_41 : decode cX2_begin 41 = .ok (.aload_n 0, 1) := by decide +kernel
theorem dX2_begin_42 : decode cX2_begin 42 = .ok (.iconst 0, 1) := by decide +kernel
theorem dX2_begin_43 : decode cX2_begin 43 = .ok (.putfield 46, 3) := by decide +kernel
theorem dX2_begin_46 : decode cX2_begin 46 = .ok (.return_, 1) := by decide +kernel
theorem dX2_copyOf_0 : decode cX2_copyOf 0 = .ok (.aload_n 0, 1) := by decide +kernel
theorem dX2_copyOf_1 : decode cX2_copyOf 1 = .ok (.aload_n 1, 1) := by decide +kernel
theorem dX2_copyOf_2 : decode cX2_copyOf 2 = .ok (.getfield 9, 3) := by decide +kernel
theorem dX2_copyOf_5 : decode cX2_copyOf 5 = .ok (.putfield 9, 3) := by decide +kernel
theorem dX2_copyOf_8 : decode cX2_copyOf 8 = .ok (.aload_n 0, 1) := by decide +kernel
theorem dX2_copyOf_9 : decode cX2_copyOf 9 = .ok (.aload_n 1, 1) := by decide +kernel
theorem dX2_copyOf_10 : decode cX2_copyOf 10 = .ok (.getfield 15, 3) := by decide +kernel
theorem dX2_copyOf_13 : decode cX2_copyOf 13 = .ok (.putfield 15, 3) := by decide +kernel
theorem dX2_copyOf_16 : decode cX2_copyOf 16 = .ok (.aload_n 1, 1) := by decide +kernel
theorem dX2_copyOf_17 : decode cX2_copyOf 17 = .ok (.getfield 18, 3) := by decide +kernel
theorem dX2_copyOf_20 : decode cX2_copyOf 20 = .ok (.iconst 0, 1) := by decide +kernel
theorem dX2_copyOf_21 : decode cX2_copyOf 21 = .ok (.aload_n 0, 1) := by decide +kernel
theorem dX2_copyOf_22 : decode cX2_copyOf 22 = .ok (.getfield 18, 3) := by decide +kernel
theorem dX2_copyOf_25 : decode cX2_copyOf 25 = .ok (.iconst 0, 1) := by decide +kernel
theorem dX2_copyOf_26 : decode cX2_copyOf 26 = .ok (.bipush 8, 2) := by decide +kernel
theorem dX2_copyOf_28 : decode cX2_copyOf 28 = .ok (.invokestatic 52, 3) := by decide +kernel
theorem dX2_copyOf_31 : decode cX2_copyOf 31 = .ok (.aload_n 0, 1) := by decide +kernel
theorem dX2_copyOf_32 : decode cX2_copyOf 32 = .ok (.aload_n 1, 1) := by decide +kernel
theorem dX2_copyOf_33 : decode cX2_copyOf 33 = .ok (.getfield 22, 3) := by decide +kernel
theorem dX2_copyOf_36 : decode cX2_copyOf 36 = .ok (.putfield 22, 3) := by decide +kernel
theorem dX2_copyOf_39 : decode cX2_copyOf 39 = .ok (.aload_n 1, 1) := by decide +kernel
theorem dX2_copyOf_40 : decode cX2_copyOf 40 = .ok (.getfield 25, 3) := by decide +kernel
theorem dX2_copyOf_43 : decode cX2_copyOf 43 = .ok (.iconst 0, 1) := by decide +kernel
theorem dX2_copyOf_44 : decode cX2_copyOf 44 = .ok (.aload_n 0, 1) := by decide +kernel
theorem dX2_copyOf_45 : decode cX2_copyOf 45 = .ok (.getfield 25, 3) := by decide +kernel
theorem dX2_copyOf_48 : decode cX2_copyOf 48 = .ok (.iconst 0, 1) := by decide +kernel
theorem dX2_copyOf_49 : decode cX2_copyOf 49 = .ok (.iconst 5, 1) := by decide +kernel
theorem dX2_copyOf_50 : decode cX2_copyOf 50 = .ok (.invokestatic 52, 3) := by decide +kernel
theorem dX2_copyOf_53 : decode cX2_copyOf 53 = .ok (.aload_n 1, 1) := by decide +kernel
theorem dX2_copyOf_54 : decode cX2_copyOf 54 = .ok (.getfield 28, 3) := by decide +kernel
theorem dX2_copyOf_57 : decode cX2_copyOf 57 = .ok (.iconst 0, 1) := by decide +kernel
theorem dX2_copyOf_58 : decode cX2_copyOf 58 = .ok (.aload_n 0, 1) := by decide +kernel
theorem dX2_copyOf_59 : decode cX2_copyOf 59 = .ok (.getfield 28, 3) := by decide +kernel
theorem dX2_copyOf_62 : decode cX2_copyOf 62 = .ok (.iconst 0, 1) := by decide +kernel
theorem dX2_copyOf_63 : decode cX2_copyOf 63 = .ok (.iconst 5, 1) := by decide +kernel
theorem dX2_copyOf_64 : decode cX2_copyOf 64 = .ok (.invokestatic 52, 3) := by decide +kernel
theorem dX2_copyOf_67 : decode cX2_copyOf 67 = .ok (.aload_n 1, 1) := by decide +kernel
theorem dX2_copyOf_68 : decode cX2_copyOf 68 = .ok (.getfield 31, 3) := by decide +kernel
theorem dX2_copyOf_71 : decode cX2_copyOf 71 = .ok (.iconst 0, 1) := by decide +kernel
theorem dX2_copyOf_72 : decode cX2_copyOf 72 = .ok (.aload_n 0, 1) := by decide +kernel
theorem dX2_copyOf_73 : decode cX2_copyOf 73 = .ok (.getfield 31, 3) := by decide +kernel
theorem dX2_copyOf_76 : decode cX2_copyOf 76 = .ok (.iconst 0, 1) := by decide +kernel
theorem dX2_copyOf_77 : decode cX2_copyOf 77 = .ok (.iconst 5, 1) := by decide +kernel
theorem dX2_copyOf_78 : decode cX2_copyOf 78 = .ok (.invokestatic 52, 3) := by decide +kernel
theorem dX2_copyOf_81 : decode cX2_copyOf 81 = .ok (.aload_n 1, 1) := by decide +kernel
theorem dX2_copyOf_82 : decode cX2_copyOf 82 = .ok (.getfield 34, 3) := by decide +kernel
theorem dX2_copyOf_85 : decode cX2_copyOf 85 = .ok (.iconst 0, 1) := by decide +kernel
theorem dX2_copyOf_86 : decode cX2_copyOf 86 = .ok (.aload_n 0, 1) := by decide +kernel
theorem dX2_copyOf_87 : decode cX2_copyOf 87 = .ok (.getfield 34, 3) := by decide +kernel
theorem dX2_copyOf_90 : decode cX2_copyOf 90 = .ok (.iconst 0, 1) := by decide +kernel
theorem dX2_copyOf_91 : decode cX2_copyOf 91 = .ok (.iconst 5, 1) := by decide +kernel
theorem dX2_copyOf_92 : decode cX2_copyOf 92 = .ok (.invokestatic 52, 3) := by decide +kernel
theorem dX2_copyOf_95 : decode cX2_copyOf 95 = .ok (.aload_n 1, 1) := by decide +kernel
theorem dX2_copyOf_96 : decode cX2_copyOf 96 = .ok (.getfield 37, 3) := by decide +kernel
theorem dX2_copyOf_99 : decode cX2_copyOf 99 = .ok (.iconst 0, 1) := by decide +kernel
theorem dX2_copyOf_100 : decode cX2_copyOf 100 = .ok (.aload_n 0, 1) := by decide +kernel
theorem dX2_copyOf_101 : decode cX2_copyOf 101 = .ok (.getfield 37, 3) := by decide +kernel
theorem dX2_copyOf_104 : decode cX2_copyOf 104 = .ok (.iconst 0, 1) := by decide +kernel
theorem dX2_copyOf_105 : decode cX2_copyOf 105 = .ok (.iconst 5, 1) := by decide +kernel
theorem dX2_copyOf_106 : decode cX2_copyOf 106 = .ok (.invokestatic 52, 3) := by decide +kernel
theorem dX2_copyOf_109 : decode cX2_copyOf 109 = .ok (.aload_n 0, 1) := by decide +kernel
theorem dX2_copyOf_110 : decode cX2_copyOf 110 = .ok (.aload_n 1, 1) := by decide +kernel
theorem dX2_copyOf_111 : decode cX2_copyOf 111 = .ok (.getfield 40, 3) := by decide +kernel
theorem dX2_copyOf_114 : decode cX2_copyOf 114 = .ok (.putfield 40, 3) := by decide +kernel
theorem dX2_copyOf_117 : decode cX2_copyOf 117 = .ok (.aload_n 1, 1) := by decide +kernel
theorem dX2_copyOf_118 : decode cX2_copyOf 118 = .ok (.getfield 43, 3) := by decide +kernel
theorem dX2_copyOf_121 : decode cX2_copyOf 121 = .ok (.iconst 0, 1) := by decide +kernel
theorem dX2_copyOf_122 : decode cX2_copyOf 122 = .ok (.aload_n 0, 1) := by decide +kernel
theorem dX2_copyOf_123 : decode cX2_copyOf 123 = .ok (.getfield 43, 3) := by decide +kernel
theorem dX2_copyOf_126 : decode cX2_copyOf 126 = .ok (.iconst 0, 1) := by decide +kernel
theorem dX2_copyOf_127 : decode cX2_copyOf 127 = .ok (.bipush 24, 2) := by decide +kernel
theorem dX2_copyOf_129 : decode cX2_copyOf 129 = .ok (.invokestatic 52, 3) := by decide +kernel
theorem dX2_copyOf_132 : decode cX2_copyOf 132 = .ok (.aload_n 0, 1) := by decide +kernel
theorem dX2_copyOf_133 : decode cX2_copyOf 133 = .ok (.aload_n 1, 1) := by decide +kernel
theorem dX2_copyOf_134 : decode cX2_copyOf 134 = .ok (.getfield 46, 3) := by decide +kernel
theorem dX2_copyOf_137 : decode cX2_copyOf 137 = .ok (.putfield 46, 3) := by decide +kernel
theorem dX2_copyOf_140 : decode cX2_copyOf 140 = .ok (.aload_n 1, 1) := by decide +kernel
theorem dX2_copyOf_141 : decode cX2_copyOf 141 = .ok (.getfield 49, 3) := by decide +kernel
theorem dX2_copyOf_144 : decode cX2_copyOf 144 = .ok (.iconst 0, 1) := by decide +kernel
theorem dX2_copyOf_145 : decode cX2_copyOf 145 = .ok (.aload_n 0, 1) := by decide +kernel
theorem dX2_copyOf_146 : decode cX2_copyOf 146 = .ok (.getfield 49, 3) := by decide +kernel
theorem dX2_copyOf_149 : decode cX2_copyOf 149 = .ok (.iconst 0, 1) := by decide +kernel
theorem dX2_copyOf_150 : decode cX2_copyOf 150 = .ok (.bipush 120, 2) := by decide +kernel
theorem dX2_copyOf_152 : decode cX2_copyOf 152 = .ok (.invokestatic 52, 3) := by decide +kernel
theorem dX2_copyOf_155 : decode cX2_copyOf 155 = .ok (.return_, 1) := by decide +kernel
theorem dX2_addBidder_0 : decode cX2_addBidder 0 = .ok (.aload_n 0, 1) := by decide +kernel
theorem dX2_addBidder_1 : decode cX2_addBidder 1 = .ok (.getfield 22, 3) := by decide +kernel
theorem dX2_addBidder_4 : decode cX2_addBidder 4 = .ok (.istore_n 3, 1) := by decide +kernel
theorem dX2_addBidder_5 : decode cX2_addBidder 5 = .ok (.aload_n 0, 1) := by decide +kernel
theorem dX2_addBidder_6 : decode cX2_addBidder 6 = .ok (.getfield 25, 3) := by decide +kernel
theorem dX2_addBidder_9 : decode cX2_addBidder 9 = .ok (.iload_n 3, 1) := by decide +kernel
theorem dX2_addBidder_10 : decode cX2_addBidder 10 = .ok (.iload_n 1, 1) := by decide +kernel
theorem dX2_addBidder_11 : decode cX2_addBidder 11 = .ok (.iastore, 1) := by decide +kernel
theorem dX2_addBidder_12 : decode cX2_addBidder 12 = .ok (.aload_n 0, 1) := by decide +kernel
theorem dX2_addBidder_13 : decode cX2_addBidder 13 = .ok (.getfield 28, 3) := by decide +kernel
theorem dX2_addBidder_16 : decode cX2_addBidder 16 = .ok (.iload_n 3, 1) := by decide +kernel
theorem dX2_addBidder_17 : decode cX2_addBidder 17 = .ok (.iload_n 1, 1) := by decide +kernel
theorem dX2_addBidder_18 : decode cX2_addBidder 18 = .ok (.invokestatic 58, 3) := by decide +kernel
theorem dX2_addBidder_21 : decode cX2_addBidder 21 = .ok (.iastore, 1) := by decide +kernel
theorem dX2_addBidder_22 : decode cX2_addBidder 22 = .ok (.aload_n 0, 1) := by decide +kernel
theorem dX2_addBidder_23 : decode cX2_addBidder 23 = .ok (.getfield 31, 3) := by decide +kernel
theorem dX2_addBidder_26 : decode cX2_addBidder 26 = .ok (.iload_n 3, 1) := by decide +kernel
theorem dX2_addBidder_27 : decode cX2_addBidder 27 = .ok (.iload_n 2, 1) := by decide +kernel
theorem dX2_addBidder_28 : decode cX2_addBidder 28 = .ok (.iastore, 1) := by decide +kernel
theorem dX2_addBidder_29 : decode cX2_addBidder 29 = .ok (.aload_n 0, 1) := by decide +kernel
theorem dX2_addBidder_30 : decode cX2_addBidder 30 = .ok (.getfield 34, 3) := by decide +kernel
theorem dX2_addBidder_33 : decode cX2_addBidder 33 = .ok (.iload_n 3, 1) := by decide +kernel
theorem dX2_addBidder_34 : decode cX2_addBidder 34 = .ok (.iconst 0, 1) := by decide +kernel
theorem dX2_addBidder_35 : decode cX2_addBidder 35 = .ok (.iastore, 1) := by decide +kernel
theorem dX2_addBidder_36 : decode cX2_addBidder 36 = .ok (.aload_n 0, 1) := by decide +kernel
theorem dX2_addBidder_37 : decode cX2_addBidder 37 = .ok (.getfield 37, 3) := by decide +kernel
theorem dX2_addBidder_40 : decode cX2_addBidder 40 = .ok (.iload_n 3, 1) := by decide +kernel
theorem dX2_addBidder_41 : decode cX2_addBidder 41 = .ok (.iconst (-1), 1) := by decide +kernel
theorem dX2_addBidder_42 : decode cX2_addBidder 42 = .ok (.iastore, 1) := by decide +kernel
theorem dX2_addBidder_43 : decode cX2_addBidder 43 = .ok (.aload_n 0, 1) := by decide +kernel
theorem dX2_addBidder_44 : decode cX2_addBidder 44 = .ok (.dup, 1) := by decide +kernel
theorem dX2_addBidder_45 : decode cX2_addBidder 45 = .ok (.getfield 22, 3) := by decide +kernel
theorem dX2_addBidder_48 : decode cX2_addBidder 48 = .ok (.iconst 1, 1) := by decide +kernel
theorem dX2_addBidder_49 : decode cX2_addBidder 49 = .ok (.iadd, 1) := by decide +kernel
theorem dX2_addBidder_50 : decode cX2_addBidder 50 = .ok (.putfield 22, 3) := by decide +kernel
theorem dX2_addBidder_53 : decode cX2_addBidder 53 = .ok (.iload_n 3, 1) := by decide +kernel
theorem dX2_addBidder_54 : decode cX2_addBidder 54 = .ok (.ireturn, 1) := by decide +kernel
theorem dX2_remember_0 : decode cX2_remember 0 = .ok (.aload_n 0, 1) := by decide +kernel
theorem dX2_remember_1 : decode cX2_remember 1 = .ok (.getfield 46, 3) := by decide +kernel
theorem dX2_remember_4 : decode cX2_remember 4 = .ok (.bipush 8, 2) := by decide +kernel
theorem dX2_remember_6 : decode cX2_remember 6 = .ok (.if_icmp .lt 25, 3) := by decide +kernel
theorem dX2_remember_9 : decode cX2_remember 9 = .ok (.aload_n 0, 1) := by decide +kernel
theorem dX2_remember_10 : decode cX2_remember 10 = .ok (.getfield 49, 3) := by decide +kernel
theorem dX2_remember_13 : decode cX2_remember 13 = .ok (.bipush 15, 2) := by decide +kernel
theorem dX2_remember_15 : decode cX2_remember 15 = .ok (.aload_n 0, 1) := by decide +kernel
theorem dX2_remember_16 : decode cX2_remember 16 = .ok (.getfield 49, 3) := by decide +kernel
theorem dX2_remember_19 : decode cX2_remember 19 = .ok (.iconst 0, 1) := by decide +kernel
theorem dX2_remember_20 : decode cX2_remember 20 = .ok (.bipush 105, 2) := by decide +kernel
theorem dX2_remember_22 : decode cX2_remember 22 = .ok (.invokestatic 52, 3) := by decide +kernel
theorem dX2_remember_25 : decode cX2_remember 25 = .ok (.aload_n 0, 1) := by decide +kernel
theorem dX2_remember_26 : decode cX2_remember 26 = .ok (.bipush 7, 2) := by decide +kernel
theorem dX2_remember_28 : decode cX2_remember 28 = .ok (.putfield 46, 3) := by decide +kernel
theorem dX2_remember_31 : decode cX2_remember 31 = .ok (.aload_n 0, 1) := by decide +kernel
theorem dX2_remember_32 : decode cX2_remember 32 = .ok (.getfield 46, 3) := by decide +kernel
theorem dX2_remember_35 : decode cX2_remember 35 = .ok (.bipush 15, 2) := by decide +kernel
theorem dX2_remember_37 : decode cX2_remember 37 = .ok (.imul, 1) := by decide +kernel
theorem dX2_remember_38 : decode cX2_remember 38 = .ok (.istore_n 1, 1) := by decide +kernel
theorem dX2_remember_39 : decode cX2_remember 39 = .ok (.aload_n 0, 1) := by decide +kernel
theorem dX2_remember_40 : decode cX2_remember 40 = .ok (.getfield 37, 3) := by decide +kernel
theorem dX2_remember_43 : decode cX2_remember 43 = .ok (.iconst 0, 1) := by decide +kernel
theorem dX2_remember_44 : decode cX2_remember 44 = .ok (.aload_n 0, 1) := by decide +kernel
theorem dX2_remember_45 : decode cX2_remember 45 = .ok (.getfield 49, 3) := by decide +kernel
theorem dX2_remember_48 : decode cX2_remember 48 = .ok (.iload_n 1, 1) := by decide +kernel
theorem dX2_remember_49 : decode cX2_remember 49 = .ok (.iconst 5, 1) := by decide +kernel
theorem dX2_remember_50 : decode cX2_remember 50 = .ok (.invokestatic 52, 3) := by decide +kernel
theorem dX2_remember_53 : decode cX2_remember 53 = .ok (.aload_n 0, 1) := by decide +kernel
theorem dX2_remember_54 : decode cX2_remember 54 = .ok (.getfield 31, 3) := by decide +kernel
theorem dX2_remember_57 : decode cX2_remember 57 = .ok (.iconst 0, 1) := by decide +kernel
theorem dX2_remember_58 : decode cX2_remember 58 = .ok (.aload_n 0, 1) := by decide +kernel
theorem dX2_remember_59 : decode cX2_remember 59 = .ok (.getfield 49, 3) := by decide +kernel
theorem dX2_remember_62 : decode cX2_remember 62 = .ok (.iload_n 1, 1) := by decide +kernel
theorem dX2_remember_63 : decode cX2_remember 63 = .ok (.iconst 5, 1) := by decide +kernel
theorem dX2_remember_64 : decode cX2_remember 64 = .ok (.iadd, 1) := by decide +kernel
theorem dX2_remember_65 : decode cX2_remember 65 = .ok (.iconst 5, 1) := by decide +kernel
theorem dX2_remember_66 : decode cX2_remember 66 = .ok (.invokestatic 52, 3) := by decide +kernel
theorem dX2_remember_69 : decode cX2_remember 69 = .ok (.aload_n 0, 1) := by decide +kernel
theorem dX2_remember_70 : decode cX2_remember 70 = .ok (.getfield 34, 3) := by decide +kernel
theorem dX2_remember_73 : decode cX2_remember 73 = .ok (.iconst 0, 1) := by decide +kernel
theorem dX2_remember_74 : decode cX2_remember 74 = .ok (.aload_n 0, 1) := by decide +kernel
theorem dX2_remember_75 : decode cX2_remember 75 = .ok (.getfield 49, 3) := by decide +kernel
theorem dX2_remember_78 : decode cX2_remember 78 = .ok (.iload_n 1, 1) := by decide +kernel
theorem dX2_remember_79 : decode cX2_remember 79 = .ok (.bipush 10, 2) := by decide +kernel
theorem dX2_remember_81 : decode cX2_remember 81 = .ok (.iadd, 1) := by decide +kernel
theorem dX2_remember_82 : decode cX2_remember 82 = .ok (.iconst 5, 1) := by decide +kernel
theorem dX2_remember_83 : decode cX2_remember 83 = .ok (.invokestatic 52, 3) := by decide +kernel
theorem dX2_remember_86 : decode cX2_remember 86 = .ok (.aload_n 0, 1) := by decide +kernel
theorem dX2_remember_87 : decode cX2_remember 87 = .ok (.dup, 1) := by decide +kernel
theorem dX2_remember_88 : decode cX2_remember 88 = .ok (.getfield 46, 3) := by decide +kernel
theorem dX2_remember_91 : decode cX2_remember 91 = .ok (.iconst 1, 1) := by decide +kernel
theorem dX2_remember_92 : decode cX2_remember 92 = .ok (.iadd, 1) := by decide +kernel
theorem dX2_remember_93 : decode cX2_remember 93 = .ok (.putfield 46, 3) := by decide +kernel
theorem dX2_remember_96 : decode cX2_remember 96 = .ok (.return_, 1) := by decide +kernel
theorem dX2_stepBack_0 : decode cX2_stepBack 0 = .ok (.aload_n 0, 1) := by decide +kernel
theorem dX2_stepBack_1 : decode cX2_stepBack 1 = .ok (.dup, 1) := by decide +kernel
theorem dX2_stepBack_2 : decode cX2_stepBack 2 = .ok (.getfield 46, 3) := by decide +kernel
theorem dX2_stepBack_5 : decode cX2_stepBack 5 = .ok (.iconst 1, 1) := by decide +kernel
theorem dX2_stepBack_6 : decode cX2_stepBack 6 = .ok (.isub, 1) := by decide +kernel
theorem dX2_stepBack_7 : decode cX2_stepBack 7 = .ok (.putfield 46, 3) := by decide +kernel
theorem dX2_stepBack_10 : decode cX2_stepBack 10 = .ok (.aload_n 0, 1) := by decide +kernel
theorem dX2_stepBack_11 : decode cX2_stepBack 11 = .ok (.getfield 46, 3) := by decide +kernel
theorem dX2_stepBack_14 : decode cX2_stepBack 14 = .ok (.bipush 15, 2) := by decide +kernel
theorem dX2_stepBack_16 : decode cX2_stepBack 16 = .ok (.imul, 1) := by decide +kernel
theorem dX2_stepBack_17 : decode cX2_stepBack 17 = .ok (.istore_n 1, 1) := by decide +kernel
theorem dX2_stepBack_18 : decode cX2_stepBack 18 = .ok (.aload_n 0, 1) := by decide +kernel
theorem dX2_stepBack_19 : decode cX2_stepBack 19 = .ok (.getfield 49, 3) := by decide +kernel
theorem dX2_stepBack_22 : decode cX2_stepBack 22 = .ok (.iload_n 1, 1) := by decide +kernel
theorem dX2_stepBack_23 : decode cX2_stepBack 23 = .ok (.aload_n 0, 1) := by decide +kernel
theorem dX2_stepBack_24 : decode cX2_stepBack 24 = .ok (.getfield 37, 3) := by decide +kernel
theorem dX2_stepBack_27 : decode cX2_stepBack 27 = .ok (.iconst 0, 1) := by decide +kernel
theorem dX2_stepBack_28 : decode cX2_stepBack 28 = .ok (.iconst 5, 1) := by decide +kernel
theorem dX2_stepBack_29 : decode cX2_stepBack 29 = .ok (.invokestatic 52, 3) := by decide +kernel
theorem dX2_stepBack_32 : decode cX2_stepBack 32 = .ok (.aload_n 0, 1) := by decide +kernel
theorem dX2_stepBack_33 : decode cX2_stepBack 33 = .ok (.getfield 49, 3) := by decide +kernel
theorem dX2_stepBack_36 : decode cX2_stepBack 36 = .ok (.iload_n 1, 1) := by decide +kernel
theorem dX2_stepBack_37 : decode cX2_stepBack 37 = .ok (.iconst 5, 1) := by decide +kernel
theorem dX2_stepBack_38 : decode cX2_stepBack 38 = .ok (.iadd, 1) := by decide +kernel
theorem dX2_stepBack_39 : decode cX2_stepBack 39 = .ok (.aload_n 0, 1) := by decide +kernel
theorem dX2_stepBack_40 : decode cX2_stepBack 40 = .ok (.getfield 31, 3) := by decide +kernel
theorem dX2_stepBack_43 : decode cX2_stepBack 43 = .ok (.iconst 0, 1) := by decide +kernel
theorem dX2_stepBack_44 : decode cX2_stepBack 44 = .ok (.iconst 5, 1) := by decide +kernel
theorem dX2_stepBack_45 : decode cX2_stepBack 45 = .ok (.invokestatic 52, 3) := by decide +kernel
theorem dX2_stepBack_48 : decode cX2_stepBack 48 = .ok (.aload_n 0, 1) := by decide +kernel
theorem dX2_stepBack_49 : decode cX2_stepBack 49 = .ok (.getfield 49, 3) := by decide +kernel
theorem dX2_stepBack_52 : decode cX2_stepBack 52 = .ok (.iload_n 1, 1) := by decide +kernel
theorem dX2_stepBack_53 : decode cX2_stepBack 53 = .ok (.bipush 10, 2) := by decide +kernel
theorem dX2_stepBack_55 : decode cX2_stepBack 55 = .ok (.iadd, 1) := by decide +kernel
theorem dX2_stepBack_56 : decode cX2_stepBack 56 = .ok (.aload_n 0, 1) := by decide +kernel
theorem dX2_stepBack_57 : decode cX2_stepBack 57 = .ok (.getfield 34, 3) := by decide +kernel
theorem dX2_stepBack_60 : decode cX2_stepBack 60 = .ok (.iconst 0, 1) := by decide +kernel
theorem dX2_stepBack_61 : decode cX2_stepBack 61 = .ok (.iconst 5, 1) := by decide +kernel
theorem dX2_stepBack_62 : decode cX2_stepBack 62 = .ok (.invokestatic 52, 3) := by decide +kernel
theorem dX2_stepBack_65 : decode cX2_stepBack 65 = .ok (.return_, 1) := by decide +kernel
theorem dX2_darkIn_0 : decode cX2_darkIn 0 = .ok (.aload_n 0, 1) := by decide +kernel
theorem dX2_darkIn_1 : decode cX2_darkIn 1 = .ok (.getfield 9, 3) := by decide +kernel
theorem dX2_darkIn_4 : decode cX2_darkIn 4 = .ok (.aload_n 0, 1) := by decide +kernel
theorem dX2_darkIn_5 : decode cX2_darkIn 5 = .ok (.getfield 15, 3) := by decide +kernel
theorem dX2_darkIn_8 : decode cX2_darkIn 8 = .ok (.iload_n 1, 1) := by decide +kernel
theorem dX2_darkIn_9 : decode cX2_darkIn 9 = .ok (.invokestatic 64, 3) := by decide +kernel
theorem dX2_darkIn_12 : decode cX2_darkIn 12 = .ok (.ireturn, 1) := by decide +kernel
theorem dX2_holder_0 : decode cX2_holder 0 = .ok (.iconst 0, 1) := by decide +kernel
theorem dX2_holder_1 : decode cX2_holder 1 = .ok (.istore_n 2, 1) := by decide +kernel
theorem dX2_holder_2 : decode cX2_holder 2 = .ok (.iload_n 2, 1) := by decide +kernel
theorem dX2_holder_3 : decode cX2_holder 3 = .ok (.aload_n 0, 1) := by decide +kernel
theorem dX2_holder_4 : decode cX2_holder 4 = .ok (.getfield 22, 3) := by decide +kernel
theorem dX2_holder_7 : decode cX2_holder 7 = .ok (.if_icmp .ge 21, 3) := by decide +kernel
theorem dX2_holder_10 : decode cX2_holder 10 = .ok (.aload_n 0, 1) := by decide +kernel
theorem dX2_holder_11 : decode cX2_holder 11 = .ok (.getfield 37, 3) := by decide +kernel
theorem dX2_holder_14 : decode cX2_holder 14 = .ok (.iload_n 2, 1) := by decide +kernel
theorem dX2_holder_15 : decode cX2_holder 15 = .ok (.iaload, 1) := by decide +kernel
theorem dX2_holder_16 : decode cX2_holder 16 = .ok (.iload_n 1, 1) := by decide +kernel
theorem dX2_holder_17 : decode cX2_holder 17 = .ok (.if_icmp .ne 5, 3) := by decide +kernel
theorem dX2_holder_20 : decode cX2_holder 20 = .ok (.iload_n 2, 1) := by decide +kernel
theorem dX2_holder_21 : decode cX2_holder 21 = .ok (.ireturn, 1) := by decide +kernel
theorem dX2_holder_22 : decode cX2_holder 22 = .ok (.iinc 2 1, 3) := by decide +kernel
theorem dX2_holder_25 : decode cX2_holder 25 = .ok (.goto (-23), 3) := by decide +kernel
theorem dX2_holder_28 : decode cX2_holder 28 = .ok (.iconst (-1), 1) := by decide +kernel
theorem dX2_holder_29 : decode cX2_holder 29 = .ok (.ireturn, 1) := by decide +kernel
theorem dX2_isOpenTo_0 : decode cX2_isOpenTo 0 = .ok (.aload_n 0, 1) := by decide +kernel
theorem dX2_isOpenTo_1 : decode cX2_isOpenTo 1 = .ok (.iload_n 2, 1) := by decide +kernel
theorem dX2_isOpenTo_2 : decode cX2_isOpenTo 2 = .ok (.invokevirtual 68, 3) := by decide +kernel
theorem dX2_isOpenTo_5 : decode cX2_isOpenTo 5 = .ok (.istore_n 3, 1) := by decide +kernel
theorem dX2_isOpenTo_6 : decode cX2_isOpenTo 6 = .ok (.iload_n 3, 1) := by decide +kernel
theorem dX2_isOpenTo_7 : decode cX2_isOpenTo 7 = .ok (.iconst (-1), 1) := by decide +kernel
theorem dX2_isOpenTo_8 : decode cX2_isOpenTo 8 = .ok (.if_icmp .eq 8, 3) := by decide +kernel
theorem dX2_isOpenTo_11 : decode cX2_isOpenTo 11 = .ok (.iload_n 3, 1) := by decide +kernel
theorem dX2_isOpenTo_12 : decode cX2_isOpenTo 12 = .ok (.iload_n 1, 1) := by decide +kernel
theorem dX2_isOpenTo_13 : decode cX2_isOpenTo 13 = .ok (.if_icmp .ne 7, 3) := by decide +kernel
theorem dX2_isOpenTo_16 : decode cX2_isOpenTo 16 = .ok (.iconst 1, 1) := by decide +kernel
theorem dX2_isOpenTo_17 : decode cX2_isOpenTo 17 = .ok (.goto 4, 3) := by decide +kernel
theorem dX2_isOpenTo_20 : decode cX2_isOpenTo 20 = .ok (.iconst 0, 1) := by decide +kernel
theorem dX2_isOpenTo_21 : decode cX2_isOpenTo 21 = .ok (.ireturn, 1) := by decide +kernel
theorem dX2_freeYards_0 : decode cX2_freeYards 0 = .ok (.bipush 8, 2) := by decide +kernel
theorem dX2_freeYards_2 : decode cX2_freeYards 2 = .ok (.istore_n 1, 1) := by decide +kernel
theorem dX2_freeYards_3 : decode cX2_freeYards 3 = .ok (.iconst 0, 1) := by decide +kernel
theorem dX2_freeYards_4 : decode cX2_freeYards 4 = .ok (.istore_n 2, 1) := by decide +kernel
theorem dX2_freeYards_5 : decode cX2_freeYards 5 = .ok (.iload_n 2, 1) := by decide +kernel
theorem dX2_freeYards_6 : decode cX2_freeYards 6 = .ok (.aload_n 0, 1) := by decide +kernel
theorem dX2_freeYards_7 : decode cX2_freeYards 7 = .ok (.getfield 22, 3) := by decide +kernel
theorem dX2_freeYards_10 : decode cX2_freeYards 10 = .ok (.if_icmp .ge 22, 3) := by decide +kernel
theorem dX2_freeYards_13 : decode cX2_freeYards 13 = .ok (.aload_n 0, 1) := by decide +kernel
theorem dX2_freeYards_14 : decode cX2_freeYards 14 = .ok (.getfield 37, 3) := by decide +kernel
theorem dX2_freeYards_17 : decode cX2_freeYards 17 = .ok (.iload_n 2, 1) := by decide +kernel
theorem dX2_freeYards_18 : decode cX2_freeYards 18 = .ok (.iaload, 1) := by decide +kernel
theorem dX2_freeYards_19 : decode cX2_freeYards 19 = .ok (.iconst (-1), 1) := by decide +kernel
theorem dX2_freeYards_20 : decode cX2_freeYards 20 = .ok (.if_icmp .eq 6, 3) := by decide +kernel
theorem dX2_freeYards_23 : decode cX2_freeYards 23 = .ok (.iinc 1 (-1), 3) := by decide +kernel
theorem dX2_freeYards_26 : decode cX2_freeYards 26 = .ok (.iinc 2 1, 3) := by decide +kernel
theorem dX2_freeYards_29 : decode cX2_freeYards 29 = .ok (.goto (-24), 3) := by decide +kernel
theorem dX2_freeYards_32 : decode cX2_freeYards 32 = .ok (.iload_n 1, 1) := by decide +kernel
theorem dX2_freeYards_33 : decode cX2_freeYards 33 = .ok (.ireturn, 1) := by decide +kernel
theorem dX2_hides_0 : decode cX2_hides 0 = .ok (.iload_n 2, 1) := by decide +kernel
theorem dX2_hides_1 : decode cX2_hides 1 = .ok (.iload_n 3, 1) := by decide +kernel
theorem dX2_hides_2 : decode cX2_hides 2 = .ok (.if_icmp .ge 29, 3) := by decide +kernel
theorem dX2_hides_5 : decode cX2_hides 5 = .ok (.aload_n 0, 1) := by decide +kernel
theorem dX2_hides_6 : decode cX2_hides 6 = .ok (.getfield 18, 3) := by decide +kernel
theorem dX2_hides_9 : decode cX2_hides 9 = .ok (.iload_n 2, 1) := by decide +kernel
theorem dX2_hides_10 : decode cX2_hides 10 = .ok (.iaload, 1) := by decide +kernel
theorem dX2_hides_11 : decode cX2_hides 11 = .ok (.aload_n 0, 1) := by decide +kernel
theorem dX2_hides_12 : decode cX2_hides 12 = .ok (.getfield 28, 3) := by decide +kernel
theorem dX2_hides_15 : decode cX2_hides 15 = .ok (.iload_n 1, 1) := by decide +kernel
theorem dX2_hides_16 : decode cX2_hides 16 = .ok (.iaload, 1) := by decide +kernel
theorem dX2_hides_17 : decode cX2_hides 17 = .ok (.iadd, 1) := by decide +kernel
theorem dX2_hides_18 : decode cX2_hides 18 = .ok (.aload_n 0, 1) := by decide +kernel
theorem dX2_hides_19 : decode cX2_hides 19 = .ok (.getfield 18, 3) := by decide +kernel
theorem dX2_hides_22 : decode cX2_hides 22 = .ok (.iload_n 3, 1) := by decide +kernel
theorem dX2_hides_23 : decode cX2_hides 23 = .ok (.iaload, 1) := by decide +kernel
theorem dX2_hides_24 : decode cX2_hides 24 = .ok (.if_icmp .le 7, 3) := by decide +kernel
theorem dX2_hides_27 : decode cX2_hides 27 = .ok (.iconst 1, 1) := by decide +kernel
theorem dX2_hides_28 : decode cX2_hides 28 = .ok (.goto 4, 3) := by decide +kernel
theorem dX2_hides_31 : decode cX2_hides 31 = .ok (.iconst 0, 1) := by decide +kernel
theorem dX2_hides_32 : decode cX2_hides 32 = .ok (.ireturn, 1) := by decide +kernel
theorem dX2_isHidden_0 : decode cX2_isHidden 0 = .ok (.iconst 0, 1) := by decide +kernel
theorem dX2_isHidden_1 : decode cX2_isHidden 1 = .ok (.istore 4, 2) := by decide +kernel
theorem dX2_isHidden_3 : decode cX2_isHidden 3 = .ok (.iload 4, 2) := by decide +kernel
theorem dX2_isHidden_5 : decode cX2_isHidden 5 = .ok (.aload_n 0, 1) := by decide +kernel
theorem dX2_isHidden_6 : decode cX2_isHidden 6 = .ok (.getfield 22, 3) := by decide +kernel
theorem dX2_isHidden_9 : decode cX2_isHidden 9 = .ok (.if_icmp .ge 51, 3) := by decide +kernel
theorem dX2_isHidden_12 : decode cX2_isHidden 12 = .ok (.iload 4, 2) := by decide +kernel
theorem dX2_isHidden_14 : decode cX2_isHidden 14 = .ok (.iload_n 2, 1) := by decide +kernel
theorem dX2_isHidden_15 : decode cX2_isHidden 15 = .ok (.if_icmp .eq 39, 3) := by decide +kernel
theorem dX2_isHidden_18 : decode cX2_isHidden 18 = .ok (.iload 4, 2) := by decide +kernel
theorem dX2_isHidden_20 : decode cX2_isHidden 20 = .ok (.iload_n 3, 1) := by decide +kernel
theorem dX2_isHidden_21 : decode cX2_isHidden 21 = .ok (.if_icmp .eq 33, 3) := by decide +kernel
theorem dX2_isHidden_24 : decode cX2_isHidden 24 = .ok (.aload_n 0, 1) := by decide +kernel
theorem dX2_isHidden_25 : decode cX2_isHidden 25 = .ok (.getfield 37, 3) := by decide +kernel
theorem dX2_isHidden_28 : decode cX2_isHidden 28 = .ok (.iload 4, 2) := by decide +kernel
theorem dX2_isHidden_30 : decode cX2_isHidden 30 = .ok (.iaload, 1) := by decide +kernel
theorem dX2_isHidden_31 : decode cX2_isHidden 31 = .ok (.iconst (-1), 1) := by decide +kernel
theorem dX2_isHidden_32 : decode cX2_isHidden 32 = .ok (.if_icmp .eq 22, 3) := by decide +kernel
theorem dX2_isHidden_35 : decode cX2_isHidden 35 = .ok (.aload_n 0, 1) := by decide +kernel
theorem dX2_isHidden_36 : decode cX2_isHidden 36 = .ok (.iload 4, 2) := by decide +kernel
theorem dX2_isHidden_38 : decode cX2_isHidden 38 = .ok (.aload_n 0, 1) := by decide +kernel
theorem dX2_isHidden_39 : decode cX2_isHidden 39 = .ok (.getfield 37, 3) := by decide +kernel
theorem dX2_isHidden_42 : decode cX2_isHidden 42 = .ok (.iload 4, 2) := by decide +kernel
theorem dX2_isHidden_44 : decode cX2_isHidden 44 = .ok (.iaload, 1) := by decide +kernel
theorem dX2_isHidden_45 : decode cX2_isHidden 45 = .ok (.iload_n 1, 1) := by decide +kernel
theorem dX2_isHidden_46 : decode cX2_isHidden 46 = .ok (.invokevirtual 71, 3) := by decide +kernel
theorem dX2_isHidden_49 : decode cX2_isHidden 49 = .ok (.ifCond .eq 5, 3) := by decide +kernel
theorem dX2_isHidden_52 : decode cX2_isHidden 52 = .ok (.iconst 1, 1) := by decide +kernel
theorem dX2_isHidden_53 : decode cX2_isHidden 53 = .ok (.ireturn, 1) := by decide +kernel
theorem dX2_isHidden_54 : decode cX2_isHidden 54 = .ok (.iinc 4 1, 3) := by decide +kernel
theorem dX2_isHidden_57 : decode cX2_isHidden 57 = .ok (.goto (-54), 3) := by decide +kernel
theorem dX2_isHidden_60 : decode cX2_isHidden 60 = .ok (.iconst 0, 1) := by decide +kernel
theorem dX2_isHidden_61 : decode cX2_isHidden 61 = .ok (.ireturn, 1) := by decide +kernel
theorem dX2_seenIn_0 : decode cX2_seenIn 0 = .ok (.aload_n 0, 1) := by decide +kernel
theorem dX2_seenIn_1 : decode cX2_seenIn 1 = .ok (.iload_n 2, 1) := by decide +kernel
theorem dX2_seenIn_2 : decode cX2_seenIn 2 = .ok (.iload_n 1, 1) := by decide +kernel
theorem dX2_seenIn_3 : decode cX2_seenIn 3 = .ok (.iload_n 1, 1) := by decide +kernel
theorem dX2_seenIn_4 : decode cX2_seenIn 4 = .ok (.invokevirtual 75, 3) := by decide +kernel
theorem dX2_seenIn_7 : decode cX2_seenIn 7 = .ok (.ifCond .eq 7, 3) := by decide +kernel
theorem dX2_seenIn_10 : decode cX2_seenIn 10 = .ok (.iconst 0, 1) := by decide +kernel
theorem dX2_seenIn_11 : decode cX2_seenIn 11 = .ok (.goto 8, 3) := by decide +kernel
theorem dX2_seenIn_14 : decode cX2_seenIn 14 = .ok (.aload_n 0, 1) := by decide +kernel
theorem dX2_seenIn_15 : decode cX2_seenIn 15 = .ok (.iload_n 2, 1) := by decide +kernel
theorem dX2_seenIn_16 : decode cX2_seenIn 16 = .ok (.invokevirtual 78, 3) := by decide +kernel
theorem dX2_seenIn_19 : decode cX2_seenIn 19 = .ok (.ireturn, 1) := by decide +kernel
theorem dX2_seenNow_0 : decode cX2_seenNow 0 = .ok (.aload_n 0, 1) := by decide +kernel
theorem dX2_seenNow_1 : decode cX2_seenNow 1 = .ok (.getfield 37, 3) := by decide +kernel
theorem dX2_seenNow_4 : decode cX2_seenNow 4 = .ok (.iload_n 1, 1) := by decide +kernel
theorem dX2_seenNow_5 : decode cX2_seenNow 5 = .ok (.iaload, 1) := by decide +kernel
theorem dX2_seenNow_6 : decode cX2_seenNow 6 = .ok (.iconst (-1), 1) := by decide +kernel
theorem dX2_seenNow_7 : decode cX2_seenNow 7 = .ok (.if_icmp .ne 7, 3) := by decide +kernel
theorem dX2_seenNow_10 : decode cX2_seenNow 10 = .ok (.iconst 0, 1) := by decide +kernel
theorem dX2_seenNow_11 : decode cX2_seenNow 11 = .ok (.goto 14, 3) := by decide +kernel
theorem dX2_seenNow_14 : decode cX2_seenNow 14 = .ok (.aload_n 0, 1) := by decide +kernel
theorem dX2_seenNow_15 : decode cX2_seenNow 15 = .ok (.iload_n 1, 1) := by decide +kernel
theorem dX2_seenNow_16 : decode cX2_seenNow 16 = .ok (.aload_n 0, 1) := by decide +kernel
theorem dX2_seenNow_17 : decode cX2_seenNow 17 = .ok (.getfield 37, 3) := by decide +kernel
theorem dX2_seenNow_20 : decode cX2_seenNow 20 = .ok (.iload_n 1, 1) := by decide +kernel
theorem dX2_seenNow_21 : decode cX2_seenNow 21 = .ok (.iaload, 1) := by decide +kernel
theorem dX2_seenNow_22 : decode cX2_seenNow 22 = .ok (.invokevirtual 81, 3) := by decide +kernel
theorem dX2_seenNow_25 : decode cX2_seenNow 25 = .ok (.ireturn, 1) := by decide +kernel
theorem dX2_seenByAll_0 : decode cX2_seenByAll 0 = .ok (.iconst 0, 1) := by decide +kernel
theorem dX2_seenByAll_1 : decode cX2_seenByAll 1 = .ok (.istore_n 1, 1) := by decide +kernel
theorem dX2_seenByAll_2 : decode cX2_seenByAll 2 = .ok (.iconst 0, 1) := by decide +kernel
theorem dX2_seenByAll_3 : decode cX2_seenByAll 3 = .ok (.istore_n 2, 1) := by decide +kernel
theorem dX2_seenByAll_4 : decode cX2_seenByAll 4 = .ok (.iload_n 2, 1) := by decide +kernel
theorem dX2_seenByAll_5 : decode cX2_seenByAll 5 = .ok (.aload_n 0, 1) := by decide +kernel
theorem dX2_seenByAll_6 : decode cX2_seenByAll 6 = .ok (.getfield 22, 3) := by decide +kernel
theorem dX2_seenByAll_9 : decode cX2_seenByAll 9 = .ok (.if_icmp .ge 17, 3) := by decide +kernel
theorem dX2_seenByAll_12 : decode cX2_seenByAll 12 = .ok (.iload_n 1, 1) := by decide +kernel
theorem dX2_seenByAll_13 : decode cX2_seenByAll 13 = .ok (.aload_n 0, 1) := by decide +kernel
theorem dX2_seenByAll_14 : decode cX2_seenByAll 14 = .ok (.iload_n 2, 1) := by decide +kernel
theorem dX2_seenByAll_15 : decode cX2_seenByAll 15 = .ok (.invokevirtual 85, 3) := by decide +kernel
theorem dX2_seenByAll_18 : decode cX2_seenByAll 18 = .ok (.iadd, 1) := by decide +kernel
theorem dX2_seenByAll_19 : decode cX2_seenByAll 19 = .ok (.istore_n 1, 1) := by decide +kernel
theorem dX2_seenByAll_20 : decode cX2_seenByAll 20 = .ok (.iinc 2 1, 3) := by decide +kernel
theorem dX2_seenByAll_23 : decode cX2_seenByAll 23 = .ok (.goto (-19), 3) := by decide +kernel
theorem dX2_seenByAll_26 : decode cX2_seenByAll 26 = .ok (.iload_n 1, 1) := by decide +kernel
theorem dX2_seenByAll_27 : decode cX2_seenByAll 27 = .ok (.ireturn, 1) := by decide +kernel
theorem dX2_openSeats_0 : decode cX2_openSeats 0 = .ok (.iconst 0, 1) := by decide +kernel
theorem dX2_openSeats_1 : decode cX2_openSeats 1 = .ok (.istore_n 1, 1) := by decide +kernel
theorem dX2_openSeats_2 : decode cX2_openSeats 2 = .ok (.iconst 0, 1) := by decide +kernel
theorem dX2_openSeats_3 : decode cX2_openSeats 3 = .ok (.istore_n 2, 1) := by decide +kernel
theorem dX2_openSeats_4 : decode cX2_openSeats 4 = .ok (.iload_n 2, 1) := by decide +kernel
theorem dX2_openSeats_5 : decode cX2_openSeats 5 = .ok (.aload_n 0, 1) := by decide +kernel
theorem dX2_openSeats_6 : decode cX2_openSeats 6 = .ok (.getfield 22, 3) := by decide +kernel
theorem dX2_openSeats_9 : decode cX2_openSeats 9 = .ok (.if_icmp .ge 45, 3) := by decide +kernel
theorem dX2_openSeats_12 : decode cX2_openSeats 12 = .ok (.aload_n 0, 1) := by decide +kernel
theorem dX2_openSeats_13 : decode cX2_openSeats 13 = .ok (.getfield 37, 3) := by decide +kernel
theorem dX2_openSeats_16 : decode cX2_openSeats 16 = .ok (.iload_n 2, 1) := by decide +kernel
theorem dX2_openSeats_17 : decode cX2_openSeats 17 = .ok (.iaload, 1) := by decide +kernel
theorem dX2_openSeats_18 : decode cX2_openSeats 18 = .ok (.iconst (-1), 1) := by decide +kernel
theorem dX2_openSeats_19 : decode cX2_openSeats 19 = .ok (.if_icmp .eq 29, 3) := by decide +kernel
theorem dX2_openSeats_22 : decode cX2_openSeats 22 = .ok (.aload_n 0, 1) := by decide +kernel
theorem dX2_openSeats_23 : decode cX2_openSeats 23 = .ok (.aload_n 0, 1) := by decide +kernel
theorem dX2_openSeats_24 : decode cX2_openSeats 24 = .ok (.getfield 37, 3) := by decide +kernel
theorem dX2_openSeats_27 : decode cX2_openSeats 27 = .ok (.iload_n 2, 1) := by decide +kernel
theorem dX2_openSeats_28 : decode cX2_openSeats 28 = .ok (.iaload, 1) := by decide +kernel
theorem dX2_openSeats_29 : decode cX2_openSeats 29 = .ok (.iload_n 2, 1) := by decide +kernel
theorem dX2_openSeats_30 : decode cX2_openSeats 30 = .ok (.iload_n 2, 1) := by decide +kernel
theorem dX2_openSeats_31 : decode cX2_openSeats 31 = .ok (.invokevirtual 75, 3) := by decide +kernel
theorem dX2_openSeats_34 : decode cX2_openSeats 34 = .ok (.ifCond .ne 14, 3) := by decide +kernel
theorem dX2_openSeats_37 : decode cX2_openSeats 37 = .ok (.iload_n 1, 1) := by decide +kernel
theorem dX2_openSeats_38 : decode cX2_openSeats 38 = .ok (.iconst 1, 1) := by decide +kernel
theorem dX2_openSeats_39 : decode cX2_openSeats 39 = .ok (.aload_n 0, 1) := by decide +kernel
theorem dX2_openSeats_40 : decode cX2_openSeats 40 = .ok (.getfield 37, 3) := by decide +kernel
theorem dX2_openSeats_43 : decode cX2_openSeats 43 = .ok (.iload_n 2, 1) := by decide +kernel
theorem dX2_openSeats_44 : decode cX2_openSeats 44 = .ok (.iaload, 1) := by decide +kernel
theorem dX2_openSeats_45 : decode cX2_openSeats 45 = .ok (.ishl, 1) := by decide +kernel
theorem dX2_openSeats_46 : decode cX2_openSeats 46 = .ok (.ior, 1) := by decide +kernel
theorem dX2_openSeats_47 : decode cX2_openSeats 47 = .ok (.istore_n 1, 1) := by decide +kernel
theorem dX2_openSeats_48 : decode cX2_openSeats 48 = .ok (.iinc 2 1, 3) := by decide +kernel
theorem dX2_openSeats_51 : decode cX2_openSeats 51 = .ok (.goto (-47), 3) := by decide +kernel
theorem dX2_openSeats_54 : decode cX2_openSeats 54 = .ok (.iload_n 1, 1) := by decide +kernel
theorem dX2_openSeats_55 : decode cX2_openSeats 55 = .ok (.ireturn, 1) := by decide +kernel
theorem dX2_paidByAll_0 : decode cX2_paidByAll 0 = .ok (.iconst 0, 1) := by decide +kernel
theorem dX2_paidByAll_1 : decode cX2_paidByAll 1 = .ok (.istore_n 1, 1) := by decide +kernel
theorem dX2_paidByAll_2 : decode cX2_paidByAll 2 = .ok (.iconst 0, 1) := by decide +kernel
theorem dX2_paidByAll_3 : decode cX2_paidByAll 3 = .ok (.istore_n 2, 1) := by decide +kernel
theorem dX2_paidByAll_4 : decode cX2_paidByAll 4 = .ok (.iload_n 2, 1) := by decide +kernel
theorem dX2_paidByAll_5 : decode cX2_paidByAll 5 = .ok (.aload_n 0, 1) := by decide +kernel
theorem dX2_paidByAll_6 : decode cX2_paidByAll 6 = .ok (.getfield 22, 3) := by decide +kernel
theorem dX2_paidByAll_9 : decode cX2_paidByAll 9 = .ok (.if_icmp .ge 18, 3) := by decide +kernel
theorem dX2_paidByAll_12 : decode cX2_paidByAll 12 = .ok (.iload_n 1, 1) := by decide +kernel
theorem dX2_paidByAll_13 : decode cX2_paidByAll 13 = .ok (.aload_n 0, 1) := by decide +kernel
theorem dX2_paidByAll_14 : decode cX2_paidByAll 14 = .ok (.getfield 34, 3) := by decide +kernel
theorem dX2_paidByAll_17 : decode cX2_paidByAll 17 = .ok (.iload_n 2, 1) := by decide +kernel
theorem dX2_paidByAll_18 : decode cX2_paidByAll 18 = .ok (.iaload, 1) := by decide +kernel
theorem dX2_paidByAll_19 : decode cX2_paidByAll 19 = .ok (.iadd, 1) := by decide +kernel
theorem dX2_paidByAll_20 : decode cX2_paidByAll 20 = .ok (.istore_n 1, 1) := by decide +kernel
theorem dX2_paidByAll_21 : decode cX2_paidByAll 21 = .ok (.iinc 2 1, 3) := by decide +kernel
theorem dX2_paidByAll_24 : decode cX2_paidByAll 24 = .ok (.goto (-20), 3) := by decide +kernel
theorem dX2_paidByAll_27 : decode cX2_paidByAll 27 = .ok (.iload_n 1, 1) := by decide +kernel
theorem dX2_paidByAll_28 : decode cX2_paidByAll 28 = .ok (.ireturn, 1) := by decide +kernel
theorem dX2_worthIn_0 : decode cX2_worthIn 0 = .ok (.aload_n 0, 1) := by decide +kernel
theorem dX2_worthIn_1 : decode cX2_worthIn 1 = .ok (.getfield 25, 3) := by decide +kernel
theorem dX2_worthIn_4 : decode cX2_worthIn 4 = .ok (.iload_n 1, 1) := by decide +kernel
theorem dX2_worthIn_5 : decode cX2_worthIn 5 = .ok (.iaload, 1) := by decide +kernel
theorem dX2_worthIn_6 : decode cX2_worthIn 6 = .ok (.aload_n 0, 1) := by decide +kernel
theorem dX2_worthIn_7 : decode cX2_worthIn 7 = .ok (.iload_n 1, 1) := by decide +kernel
theorem dX2_worthIn_8 : decode cX2_worthIn 8 = .ok (.iload_n 2, 1) := by decide +kernel
theorem dX2_worthIn_9 : decode cX2_worthIn 9 = .ok (.invokevirtual 81, 3) := by decide +kernel
theorem dX2_worthIn_12 : decode cX2_worthIn 12 = .ok (.aload_n 0, 1) := by decide +kernel
theorem dX2_worthIn_13 : decode cX2_worthIn 13 = .ok (.getfield 18, 3) := by decide +kernel
theorem dX2_worthIn_16 : decode cX2_worthIn 16 = .ok (.iload_n 2, 1) := by decide +kernel
theorem dX2_worthIn_17 : decode cX2_worthIn 17 = .ok (.iaload, 1) := by decide +kernel
theorem dX2_worthIn_18 : decode cX2_worthIn 18 = .ok (.invokestatic 88, 3) := by decide +kernel
theorem dX2_worthIn_21 : decode cX2_worthIn 21 = .ok (.ireturn, 1) := by decide +kernel
theorem dX2_bid_0 : decode cX2_bid 0 = .ok (.aload_n 0, 1) := by decide +kernel
theorem dX2_bid_1 : decode cX2_bid 1 = .ok (.iload_n 1, 1) := by decide +kernel
theorem dX2_bid_2 : decode cX2_bid 2 = .ok (.iload_n 2, 1) := by decide +kernel
theorem dX2_bid_3 : decode cX2_bid 3 = .ok (.invokevirtual 91, 3) := by decide +kernel
theorem dX2_bid_6 : decode cX2_bid 6 = .ok (.aload_n 0, 1) := by decide +kernel
theorem dX2_bid_7 : decode cX2_bid 7 = .ok (.getfield 31, 3) := by decide +kernel
theorem dX2_bid_10 : decode cX2_bid 10 = .ok (.iload_n 1, 1) := by decide +kernel
theorem dX2_bid_11 : decode cX2_bid 11 = .ok (.iaload, 1) := by decide +kernel
theorem dX2_bid_12 : decode cX2_bid 12 = .ok (.invokestatic 94, 3) := by decide +kernel
theorem dX2_bid_15 : decode cX2_bid 15 = .ok (.ireturn, 1) := by decide +kernel
theorem dX2_topBidder_0 : decode cX2_topBidder 0 = .ok (.iconst (-1), 1) := by decide +kernel
theorem dX2_topBidder_1 : decode cX2_topBidder 1 = .ok (.istore_n 2, 1) := by decide +kernel
theorem dX2_topBidder_2 : decode cX2_topBidder 2 = .ok (.iconst 0, 1) := by decide +kernel
theorem dX2_topBidder_3 : decode cX2_topBidder 3 = .ok (.istore_n 3, 1) := by decide +kernel
theorem dX2_topBidder_4 : decode cX2_topBidder 4 = .ok (.iconst 0, 1) := by decide +kernel
theorem dX2_topBidder_5 : decode cX2_topBidder 5 = .ok (.istore 4, 2) := by decide +kernel
theorem dX2_topBidder_7 : decode cX2_topBidder 7 = .ok (.iload 4, 2) := by decide +kernel
theorem dX2_topBidder_9 : decode cX2_topBidder 9 = .ok (.aload_n 0, 1) := by decide +kernel
theorem dX2_topBidder_10 : decode cX2_topBidder 10 = .ok (.getfield 22, 3) := by decide +kernel
theorem dX2_topBidder_13 : decode cX2_topBidder 13 = .ok (.if_icmp .ge 41, 3) := by decide +kernel
theorem dX2_topBidder_16 : decode cX2_topBidder 16 = .ok (.aload_n 0, 1) := by decide +kernel
theorem dX2_topBidder_17 : decode cX2_topBidder 17 = .ok (.getfield 37, 3) := by decide +kernel
theorem dX2_topBidder_20 : decode cX2_topBidder 20 = .ok (.iload 4, 2) := by decide +kernel
theorem dX2_topBidder_22 : decode cX2_topBidder 22 = .ok (.iaload, 1) := by decide +kernel
theorem dX2_topBidder_23 : decode cX2_topBidder 23 = .ok (.iconst (-1), 1) := by decide +kernel
theorem dX2_topBidder_24 : decode cX2_topBidder 24 = .ok (.if_icmp .ne 24, 3) := by decide +kernel
theorem dX2_topBidder_27 : decode cX2_topBidder 27 = .ok (.aload_n 0, 1) := by decide +kernel
theorem dX2_topBidder_28 : decode cX2_topBidder 28 = .ok (.iload 4, 2) := by decide +kernel
theorem dX2_topBidder_30 : decode cX2_topBidder 30 = .ok (.iload_n 1, 1) := by decide +kernel
theorem dX2_topBidder_31 : decode cX2_topBidder 31 = .ok (.invokevirtual 99, 3) := by decide +kernel
theorem dX2_topBidder_34 : decode cX2_topBidder 34 = .ok (.istore 5, 2) := by decide +kernel
theorem dX2_topBidder_36 : decode cX2_topBidder 36 = .ok (.iload 5, 2) := by decide +kernel
theorem dX2_topBidder_38 : decode cX2_topBidder 38 = .ok (.iload_n 3, 1) := by decide +kernel
theorem dX2_topBidder_39 : decode cX2_topBidder 39 = .ok (.if_icmp .le 9, 3) := by decide +kernel
theorem dX2_topBidder_42 : decode cX2_topBidder 42 = .ok (.iload 5, 2) := by decide +kernel
theorem dX2_topBidder_44 : decode cX2_topBidder 44 = .ok (.istore_n 3, 1) := by decide +kernel
theorem dX2_topBidder_45 : decode cX2_topBidder 45 = .ok (.iload 4, 2) := by decide +kernel
theorem dX2_topBidder_47 : decode cX2_topBidder 47 = .ok (.istore_n 2, 1) := by decide +kernel
theorem dX2_topBidder_48 : decode cX2_topBidder 48 = .ok (.iinc 4 1, 3) := by decide +kernel
theorem dX2_topBidder_51 : decode cX2_topBidder 51 = .ok (.goto (-44), 3) := by decide +kernel
theorem dX2_topBidder_54 : decode cX2_topBidder 54 = .ok (.iload_n 2, 1) := by decide +kernel
theorem dX2_topBidder_55 : decode cX2_topBidder 55 = .ok (.ireturn, 1) := by decide +kernel
theorem dX2_price_0 : decode cX2_price 0 = .ok (.iconst 0, 1) := by decide +kernel
theorem dX2_price_1 : decode cX2_price 1 = .ok (.istore_n 3, 1) := by decide +kernel
theorem dX2_price_2 : decode cX2_price 2 = .ok (.iconst 0, 1) := by decide +kernel
theorem dX2_price_3 : decode cX2_price 3 = .ok (.istore 4, 2) := by decide +kernel
theorem dX2_price_5 : decode cX2_price 5 = .ok (.iload 4, 2) := by decide +kernel
theorem dX2_price_7 : decode cX2_price 7 = .ok (.aload_n 0, 1) := by decide +kernel
theorem dX2_price_8 : decode cX2_price 8 = .ok (.getfield 22, 3) := by decide +kernel
theorem dX2_price_11 : decode cX2_price 11 = .ok (.if_icmp .ge 38, 3) := by decide +kernel
theorem dX2_price_14 : decode cX2_price 14 = .ok (.iload 4, 2) := by decide +kernel
theorem dX2_price_16 : decode cX2_price 16 = .ok (.iload_n 2, 1) := by decide +kernel
theorem dX2_price_17 : decode cX2_price 17 = .ok (.if_icmp .eq 26, 3) := by decide +kernel
theorem dX2_price_20 : decode cX2_price 20 = .ok (.aload_n 0, 1) := by decide +kernel
theorem dX2_price_21 : decode cX2_price 21 = .ok (.getfield 37, 3) := by decide +kernel
theorem dX2_price_24 : decode cX2_price 24 = .ok (.iload 4, 2) := by decide +kernel
theorem dX2_price_26 : decode cX2_price 26 = .ok (.iaload, 1) := by decide +kernel
theorem dX2_price_27 : decode cX2_price 27 = .ok (.iconst (-1), 1) := by decide +kernel
theorem dX2_price_28 : decode cX2_price 28 = .ok (.if_icmp .ne 15, 3) := by decide +kernel
theorem dX2_price_31 : decode cX2_price 31 = .ok (.iload_n 3, 1) := by decide +kernel
theorem dX2_price_32 : decode cX2_price 32 = .ok (.aload_n 0, 1) := by decide +kernel
theorem dX2_price_33 : decode cX2_price 33 = .ok (.iload 4, 2) := by decide +kernel
theorem dX2_price_35 : decode cX2_price 35 = .ok (.iload_n 1, 1) := by decide +kernel
theorem dX2_price_36 : decode cX2_price 36 = .ok (.invokevirtual 99, 3) := by decide +kernel
theorem dX2_price_39 : decode cX2_price 39 = .ok (.invokestatic 102, 3) := by decide +kernel
theorem dX2_price_42 : decode cX2_price 42 = .ok (.istore_n 3, 1) := by decide +kernel
theorem dX2_price_43 : decode cX2_price 43 = .ok (.iinc 4 1, 3) := by decide +kernel
theorem dX2_price_46 : decode cX2_price 46 = .ok (.goto (-41), 3) := by decide +kernel
theorem dX2_price_49 : decode cX2_price 49 = .ok (.iload_n 3, 1) := by decide +kernel
theorem dX2_price_50 : decode cX2_price 50 = .ok (.ireturn, 1) := by decide +kernel
theorem dX2_harm_0 : decode cX2_harm 0 = .ok (.iconst 0, 1) := by decide +kernel
theorem dX2_harm_1 : decode cX2_harm 1 = .ok (.istore_n 3, 1) := by decide +kernel
theorem dX2_harm_2 : decode cX2_harm 2 = .ok (.iconst 0, 1) := by decide +kernel
theorem dX2_harm_3 : decode cX2_harm 3 = .ok (.istore 4, 2) := by decide +kernel
theorem dX2_harm_5 : decode cX2_harm 5 = .ok (.iload 4, 2) := by decide +kernel
theorem dX2_harm_7 : decode cX2_harm 7 = .ok (.aload_n 0, 1) := by decide +kernel
theorem dX2_harm_8 : decode cX2_harm 8 = .ok (.getfield 22, 3) := by decide +kernel
theorem dX2_harm_11 : decode cX2_harm 11 = .ok (.if_icmp .ge 62, 3) := by decide +kernel
theorem dX2_harm_14 : decode cX2_harm 14 = .ok (.aload_n 0, 1) := by decide +kernel
theorem dX2_harm_15 : decode cX2_harm 15 = .ok (.getfield 37, 3) := by decide +kernel
theorem dX2_harm_18 : decode cX2_harm 18 = .ok (.iload 4, 2) := by decide +kernel
theorem dX2_harm_20 : decode cX2_harm 20 = .ok (.iaload, 1) := by decide +kernel
theorem dX2_harm_21 : decode cX2_harm 21 = .ok (.istore 5, 2) := by decide +kernel
theorem dX2_harm_23 : decode cX2_harm 23 = .ok (.iload 4, 2) := by decide +kernel
theorem dX2_harm_25 : decode cX2_harm 25 = .ok (.iload_n 1, 1) := by decide +kernel
theorem dX2_harm_26 : decode cX2_harm 26 = .ok (.if_icmp .eq 41, 3) := by decide +kernel
theorem dX2_harm_29 : decode cX2_harm 29 = .ok (.iload 5, 2) := by decide +kernel
theorem dX2_harm_31 : decode cX2_harm 31 = .ok (.iconst (-1), 1) := by decide +kernel
theorem dX2_harm_32 : decode cX2_harm 32 = .ok (.if_icmp .eq 35, 3) := by decide +kernel
theorem dX2_harm_35 : decode cX2_harm 35 = .ok (.aload_n 0, 1) := by decide +kernel
theorem dX2_harm_36 : decode cX2_harm 36 = .ok (.iload_n 1, 1) := by decide +kernel
theorem dX2_harm_37 : decode cX2_harm 37 = .ok (.iload_n 2, 1) := by decide +kernel
theorem dX2_harm_38 : decode cX2_harm 38 = .ok (.iload 5, 2) := by decide +kernel
theorem dX2_harm_40 : decode cX2_harm 40 = .ok (.invokevirtual 71, 3) := by decide +kernel
theorem dX2_harm_43 : decode cX2_harm 43 = .ok (.ifCond .eq 24, 3) := by decide +kernel
theorem dX2_harm_46 : decode cX2_harm 46 = .ok (.aload_n 0, 1) := by decide +kernel
theorem dX2_harm_47 : decode cX2_harm 47 = .ok (.iload 5, 2) := by decide +kernel
theorem dX2_harm_49 : decode cX2_harm 49 = .ok (.iload 4, 2) := by decide +kernel
theorem dX2_harm_51 : decode cX2_harm 51 = .ok (.iload_n 1, 1) := by decide +kernel
theorem dX2_harm_52 : decode cX2_harm 52 = .ok (.invokevirtual 75, 3) := by decide +kernel
theorem dX2_harm_55 : decode cX2_harm 55 = .ok (.ifCond .ne 12, 3) := by decide +kernel
theorem dX2_harm_58 : decode cX2_harm 58 = .ok (.iload_n 3, 1) := by decide +kernel
theorem dX2_harm_59 : decode cX2_harm 59 = .ok (.aload_n 0, 1) := by decide +kernel
theorem dX2_harm_60 : decode cX2_harm 60 = .ok (.iload 5, 2) := by decide +kernel
theorem dX2_harm_62 : decode cX2_harm 62 = .ok (.invokevirtual 78, 3) := by decide +kernel
theorem dX2_harm_65 : decode cX2_harm 65 = .ok (.iadd, 1) := by decide +kernel
theorem dX2_harm_66 : decode cX2_harm 66 = .ok (.istore_n 3, 1) := by decide +kernel
theorem dX2_harm_67 : decode cX2_harm 67 = .ok (.iinc 4 1, 3) := by decide +kernel
theorem dX2_harm_70 : decode cX2_harm 70 = .ok (.goto (-65), 3) := by decide +kernel
theorem dX2_harm_73 : decode cX2_harm 73 = .ok (.iload_n 3, 1) := by decide +kernel
theorem dX2_harm_74 : decode cX2_harm 74 = .ok (.ireturn, 1) := by decide +kernel
theorem dX3_worth_0 : decode cX3_worth 0 = .ok (.iload_n 0, 1) := by decide +kernel
theorem dX3_worth_1 : decode cX3_worth 1 = .ok (.tableswitch 69 2 5 #[31, 35, 50, 63], 31) := by decide +kernel
theorem dX3_worth_32 : decode cX3_worth 32 = .ok (.iload_n 1, 1) := by decide +kernel
theorem dX3_worth_33 : decode cX3_worth 33 = .ok (.iconst 2, 1) := by decide +kernel
theorem dX3_worth_34 : decode cX3_worth 34 = .ok (.idiv, 1) := by decide +kernel
theorem dX3_worth_35 : decode cX3_worth 35 = .ok (.ireturn, 1) := by decide +kernel
theorem dX3_worth_36 : decode cX3_worth 36 = .ok (.iload_n 1, 1) := by decide +kernel
theorem dX3_worth_37 : decode cX3_worth 37 = .ok (.ifCond .ne 7, 3) := by decide +kernel
theorem dX3_worth_40 : decode cX3_worth 40 = .ok (.iconst 0, 1) := by decide +kernel
theorem dX3_worth_41 : decode cX3_worth 41 = .ok (.goto 9, 3) := by decide +kernel
theorem dX3_worth_44 : decode cX3_worth 44 = .ok (.iload_n 1, 1) := by decide +kernel
theorem dX3_worth_45 : decode cX3_worth 45 = .ok (.bipush 20, 2) := by decide +kernel
theorem dX3_worth_47 : decode cX3_worth 47 = .ok (.iload_n 2, 1) := by decide +kernel
theorem dX3_worth_48 : decode cX3_worth 48 = .ok (.imul, 1) := by decide +kernel
theorem dX3_worth_49 : decode cX3_worth 49 = .ok (.iadd, 1) := by decide +kernel
theorem dX3_worth_50 : decode cX3_worth 50 = .ok (.ireturn, 1) := by decide +kernel
theorem dX3_worth_51 : decode cX3_worth 51 = .ok (.iload_n 1, 1) := by decide +kernel
theorem dX3_worth_52 : decode cX3_worth 52 = .ok (.sipush 200, 3) := by decide +kernel
theorem dX3_worth_55 : decode cX3_worth 55 = .ok (.if_icmp .ge 7, 3) := by decide +kernel
theorem dX3_worth_58 : decode cX3_worth 58 = .ok (.iconst 0, 1) := by decide +kernel
theorem dX3_worth_59 : decode cX3_worth 59 = .ok (.goto 4, 3) := by decide +kernel
theorem dX3_worth_62 : decode cX3_worth 62 = .ok (.iload_n 1, 1) := by decide +kernel
theorem dX3_worth_63 : decode cX3_worth 63 = .ok (.ireturn, 1) := by decide +kernel
theorem dX3_worth_64 : decode cX3_worth 64 = .ok (.iconst 3, 1) := by decide +kernel
theorem dX3_worth_65 : decode cX3_worth 65 = .ok (.iload_n 1, 1) := by decide +kernel
theorem dX3_worth_66 : decode cX3_worth 66 = .ok (.iconst 2, 1) := by decide +kernel
theorem dX3_worth_67 : decode cX3_worth 67 = .ok (.idiv, 1) := by decide +kernel
theorem dX3_worth_68 : decode cX3_worth 68 = .ok (.imul, 1) := by decide +kernel
theorem dX3_worth_69 : decode cX3_worth 69 = .ok (.ireturn, 1) := by decide +kernel
theorem dX3_worth_70 : decode cX3_worth 70 = .ok (.iload_n 1, 1) := by decide +kernel
theorem dX3_worth_71 : decode cX3_worth 71 = .ok (.ireturn, 1) := by decide +kernel
theorem dX3_head_0 : decode cX3_head 0 = .ok (.iload_n 0, 1) := by decide +kernel
theorem dX3_head_1 : decode cX3_head 1 = .ok (.tableswitch 43 1 5 #[35, 43, 37, 39, 41], 35) := by decide +kernel
theorem dX3_head_36 : decode cX3_head 36 = .ok (.iconst 3, 1) := by decide +kernel
theorem dX3_head_37 : decode cX3_head 37 = .ok (.ireturn, 1) := by decide +kernel
theorem dX3_head_38 : decode cX3_head 38 = .ok (.iconst 0, 1) := by decide +kernel
theorem dX3_head_39 : decode cX3_head 39 = .ok (.ireturn, 1) := by decide +kernel
theorem dX3_head_40 : decode cX3_head 40 = .ok (.iconst 4, 1) := by decide +kernel
theorem dX3_head_41 : decode cX3_head 41 = .ok (.ireturn, 1) := by decide +kernel
theorem dX3_head_42 : decode cX3_head 42 = .ok (.iconst 0, 1) := by decide +kernel
theorem dX3_head_43 : decode cX3_head 43 = .ok (.ireturn, 1) := by decide +kernel
theorem dX3_head_44 : decode cX3_head 44 = .ok (.iconst 1, 1) := by decide +kernel
theorem dX3_head_45 : decode cX3_head 45 = .ok (.ireturn, 1) := by decide +kernel
