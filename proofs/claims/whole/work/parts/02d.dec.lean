/-! the instructions, decoded; printed by wip/gen/dec.py -/
theorem dX7_bad_0 : decode cX7_bad 0 = .ok (.aload_n 0, 1) := by decide +kernel
theorem dX7_bad_1 : decode cX7_bad 1 = .ok (.getfield 1, 3) := by decide +kernel
theorem dX7_bad_4 : decode cX7_bad 4 = .ok (.iconst 0, 1) := by decide +kernel
theorem dX7_bad_5 : decode cX7_bad 5 = .ok (.dup2, 1) := by decide +kernel
theorem dX7_bad_6 : decode cX7_bad 6 = .ok (.iaload, 1) := by decide +kernel
theorem dX7_bad_7 : decode cX7_bad 7 = .ok (.iconst 1, 1) := by decide +kernel
theorem dX7_bad_8 : decode cX7_bad 8 = .ok (.iadd, 1) := by decide +kernel
theorem dX7_bad_9 : decode cX7_bad 9 = .ok (.iastore, 1) := by decide +kernel
theorem dX7_bad_10 : decode cX7_bad 10 = .ok (.bipush (-2), 2) := by decide +kernel
theorem dX7_bad_12 : decode cX7_bad 12 = .ok (.ireturn, 1) := by decide +kernel
theorem dX7_ten_0 : decode cX7_ten 0 = .ok (.aload_n 0, 1) := by decide +kernel
theorem dX7_ten_1 : decode cX7_ten 1 = .ok (.getfield 1, 3) := by decide +kernel
theorem dX7_ten_4 : decode cX7_ten 4 = .ok (.iconst 0, 1) := by decide +kernel
theorem dX7_ten_5 : decode cX7_ten 5 = .ok (.dup2, 1) := by decide +kernel
theorem dX7_ten_6 : decode cX7_ten 6 = .ok (.iaload, 1) := by decide +kernel
theorem dX7_ten_7 : decode cX7_ten 7 = .ok (.iconst 1, 1) := by decide +kernel
theorem dX7_ten_8 : decode cX7_ten 8 = .ok (.iadd, 1) := by decide +kernel
theorem dX7_ten_9 : decode cX7_ten 9 = .ok (.iastore, 1) := by decide +kernel
theorem dX7_ten_10 : decode cX7_ten 10 = .ok (.bipush (-10), 2) := by decide +kernel
theorem dX7_ten_12 : decode cX7_ten 12 = .ok (.ireturn, 1) := by decide +kernel
theorem dX7_no_0 : decode cX7_no 0 = .ok (.aload_n 0, 1) := by decide +kernel
theorem dX7_no_1 : decode cX7_no 1 = .ok (.getfield 1, 3) := by decide +kernel
theorem dX7_no_4 : decode cX7_no 4 = .ok (.iconst 1, 1) := by decide +kernel
theorem dX7_no_5 : decode cX7_no 5 = .ok (.dup2, 1) := by decide +kernel
theorem dX7_no_6 : decode cX7_no 6 = .ok (.iaload, 1) := by decide +kernel
theorem dX7_no_7 : decode cX7_no 7 = .ok (.iconst 1, 1) := by decide +kernel
theorem dX7_no_8 : decode cX7_no 8 = .ok (.iadd, 1) := by decide +kernel
theorem dX7_no_9 : decode cX7_no 9 = .ok (.iastore, 1) := by decide +kernel
theorem dX7_no_10 : decode cX7_no 10 = .ok (.bipush (-3), 2) := by decide +kernel
theorem dX7_no_12 : decode cX7_no 12 = .ok (.ireturn, 1) := by decide +kernel
theorem dX7_full_0 : decode cX7_full 0 = .ok (.aload_n 0, 1) := by decide +kernel
theorem dX7_full_1 : decode cX7_full 1 = .ok (.getfield 1, 3) := by decide +kernel
theorem dX7_full_4 : decode cX7_full 4 = .ok (.iconst 2, 1) := by decide +kernel
theorem dX7_full_5 : decode cX7_full 5 = .ok (.dup2, 1) := by decide +kernel
theorem dX7_full_6 : decode cX7_full 6 = .ok (.iaload, 1) := by decide +kernel
theorem dX7_full_7 : decode cX7_full 7 = .ok (.iconst 1, 1) := by decide +kernel
theorem dX7_full_8 : decode cX7_full 8 = .ok (.iadd, 1) := by decide +kernel
theorem dX7_full_9 : decode cX7_full 9 = .ok (.iastore, 1) := by decide +kernel
theorem dX7_full_10 : decode cX7_full 10 = .ok (.bipush (-4), 2) := by decide +kernel
theorem dX7_full_12 : decode cX7_full 12 = .ok (.ireturn, 1) := by decide +kernel
theorem dX7_in_0 : decode cX7_in 0 = .ok (.iload_n 0, 1) := by decide +kernel
theorem dX7_in_1 : decode cX7_in 1 = .ok (.iload_n 1, 1) := by decide +kernel
theorem dX7_in_2 : decode cX7_in 2 = .ok (.if_icmp .lt 12, 3) := by decide +kernel
theorem dX7_in_5 : decode cX7_in 5 = .ok (.iload_n 0, 1) := by decide +kernel
theorem dX7_in_6 : decode cX7_in 6 = .ok (.iload_n 2, 1) := by decide +kernel
theorem dX7_in_7 : decode cX7_in 7 = .ok (.if_icmp .gt 7, 3) := by decide +kernel
theorem dX7_in_10 : decode cX7_in 10 = .ok (.iconst 1, 1) := by decide +kernel
theorem dX7_in_11 : decode cX7_in 11 = .ok (.goto 4, 3) := by decide +kernel
theorem dX7_in_14 : decode cX7_in 14 = .ok (.iconst 0, 1) := by decide +kernel
theorem dX7_in_15 : decode cX7_in 15 = .ok (.ireturn, 1) := by decide +kernel
theorem dX7_has_0 : decode cX7_has 0 = .ok (.iload_n 0, 1) := by decide +kernel
theorem dX7_has_1 : decode cX7_has 1 = .ok (.iload_n 1, 1) := by decide +kernel
theorem dX7_has_2 : decode cX7_has 2 = .ok (.ishr, 1) := by decide +kernel
theorem dX7_has_3 : decode cX7_has 3 = .ok (.iconst 1, 1) := by decide +kernel
theorem dX7_has_4 : decode cX7_has 4 = .ok (.iand, 1) := by decide +kernel
theorem dX7_has_5 : decode cX7_has 5 = .ok (.iconst 1, 1) := by decide +kernel
theorem dX7_has_6 : decode cX7_has 6 = .ok (.if_icmp .ne 7, 3) := by decide +kernel
theorem dX7_has_9 : decode cX7_has 9 = .ok (.iconst 1, 1) := by decide +kernel
theorem dX7_has_10 : decode cX7_has 10 = .ok (.goto 4, 3) := by decide +kernel
theorem dX7_has_13 : decode cX7_has 13 = .ok (.iconst 0, 1) := by decide +kernel
theorem dX7_has_14 : decode cX7_has 14 = .ok (.ireturn, 1) := by decide +kernel
theorem dX7_lesser_0 : decode cX7_lesser 0 = .ok (.iload_n 0, 1) := by decide +kernel
theorem dX7_lesser_1 : decode cX7_lesser 1 = .ok (.iload_n 1, 1) := by decide +kernel
theorem dX7_lesser_2 : decode cX7_lesser 2 = .ok (.if_icmp .ge 7, 3) := by decide +kernel
theorem dX7_lesser_5 : decode cX7_lesser 5 = .ok (.iload_n 0, 1) := by decide +kernel
theorem dX7_lesser_6 : decode cX7_lesser 6 = .ok (.goto 4, 3) := by decide +kernel
theorem dX7_lesser_9 : decode cX7_lesser 9 = .ok (.iload_n 1, 1) := by decide +kernel
theorem dX7_lesser_10 : decode cX7_lesser 10 = .ok (.ireturn, 1) := by decide +kernel
theorem dX7_init_0 : decode cX7_init 0 = .ok (.aload_n 0, 1) := by decide +kernel
theorem dX7_init_1 : decode cX7_init 1 = .ok (.invokespecial 7, 3) := by decide +kernel
theorem dX7_init_4 : decode cX7_init 4 = .ok (.aload_n 0, 1) := by decide +kernel
theorem dX7_init_5 : decode cX7_init 5 = .ok (.iconst 3, 1) := by decide +kernel
theorem dX7_init_6 : decode cX7_init 6 = .ok (.newarray .int, 2) := by decide +kernel
theorem dX7_init_8 : decode cX7_init 8 = .ok (.putfield 1, 3) := by decide +kernel
theorem dX7_init_11 : decode cX7_init 11 = .ok (.aload_n 0, 1) := by decide +kernel
theorem dX7_init_12 : decode cX7_init 12 = .ok (.iconst 3, 1) := by decide +kernel
theorem dX7_init_13 : decode cX7_init 13 = .ok (.putfield 13, 3) := by decide +kernel
theorem dX7_init_16 : decode cX7_init 16 = .ok (.aload_n 0, 1) := by decide +kernel
theorem dX7_init_17 : decode cX7_init 17 = .ok (.sipush 240, 3) := by decide +kernel
theorem dX7_init_20 : decode cX7_init 20 = .ok (.putfield 17, 3) := by decide +kernel
theorem dX7_init_23 : decode cX7_init 23 = .ok (.aload_n 0, 1) := by decide +kernel
theorem dX7_init_24 : decode cX7_init 24 = .ok (.bipush 8, 2) := by decide +kernel
theorem dX7_init_26 : decode cX7_init 26 = .ok (.newarray .int, 2) := by decide +kernel
theorem dX7_init_28 : decode cX7_init 28 = .ok (.putfield 20, 3) := by decide +kernel
theorem dX7_init_31 : decode cX7_init 31 = .ok (.aload_n 0, 1) := by decide +kernel
theorem dX7_init_32 : decode cX7_init 32 = .ok (.iconst 5, 1) := by decide +kernel
theorem dX7_init_33 : decode cX7_init 33 = .ok (.newarray .int, 2) := by decide +kernel
theorem dX7_init_35 : decode cX7_init 35 = .ok (.putfield 23, 3) := by decide +kernel
theorem dX7_init_38 : decode cX7_init 38 = .ok (.aload_n 0, 1) := by decide +kernel
theorem dX7_init_39 : decode cX7_init 39 = .ok (.iconst 5, 1) := by decide +kernel
theorem dX7_init_40 : decode cX7_init 40 = .ok (.newarray .int, 2) := by decide +kernel
theorem dX7_init_42 : decode cX7_init 42 = .ok (.putfield 26, 3) := by decide +kernel
theorem dX7_init_45 : decode cX7_init 45 = .ok (.aload_n 0, 1) := by decide +kernel
theorem dX7_init_46 : decode cX7_init 46 = .ok (.iconst 5, 1) := by decide +kernel
theorem dX7_init_47 : decode cX7_init 47 = .ok (.newarray .int, 2) := by decide +kernel
theorem dX7_init_49 : decode cX7_init 49 = .ok (.putfield 29, 3) := by decide +kernel
theorem dX7_init_52 : decode cX7_init 52 = .ok (.aload_n 0, 1) := by decide +kernel
theorem dX7_init_53 : decode cX7_init 53 = .ok (.iconst 5, 1) := by decide +kernel
theorem dX7_init_54 : decode cX7_init 54 = .ok (.newarray .int, 2) := by decide +kernel
theorem dX7_init_56 : decode cX7_init 56 = .ok (.putfield 32, 3) := by decide +kernel
theorem dX7_init_59 : decode cX7_init 59 = .ok (.aload_n 0, 1) := by decide +kernel
theorem dX7_init_60 : decode cX7_init 60 = .ok (.bipush 6, 2) := by decide +kernel
theorem dX7_init_62 : decode cX7_init 62 = .ok (.newarray .int, 2) := by decide +kernel
theorem dX7_init_64 : decode cX7_init 64 = .ok (.putfield 35, 3) := by decide +kernel
theorem dX7_init_67 : decode cX7_init 67 = .ok (.aload_n 0, 1) := by decide +kernel
theorem dX7_init_68 : decode cX7_init 68 = .ok (.bipush 6, 2) := by decide +kernel
theorem dX7_init_70 : decode cX7_init 70 = .ok (.newarray .int, 2) := by decide +kernel
theorem dX7_init_72 : decode cX7_init 72 = .ok (.putfield 38, 3) := by decide +kernel
theorem dX7_init_75 : decode cX7_init 75 = .ok (.aload_n 0, 1) := by decide +kernel
theorem dX7_init_76 : decode cX7_init 76 = .ok (.bipush 6, 2) := by decide +kernel
theorem dX7_init_78 : decode cX7_init 78 = .ok (.newarray .int, 2) := by decide +kernel
theorem dX7_init_80 : decode cX7_init 80 = .ok (.putfield 41, 3) := by decide +kernel
theorem dX7_init_83 : decode cX7_init 83 = .ok (.aload_n 0, 1) := by decide +kernel
theorem dX7_init_84 : decode cX7_init 84 = .ok (.bipush 6, 2) := by decide +kernel
theorem dX7_init_86 : decode cX7_init 86 = .ok (.newarray .int, 2) := by decide +kernel
theorem dX7_init_88 : decode cX7_init 88 = .ok (.putfield 44, 3) := by decide +kernel
theorem dX7_init_91 : decode cX7_init 91 = .ok (.aload_n 0, 1) := by decide +kernel
theorem dX7_init_92 : decode cX7_init 92 = .ok (.sipush 150, 3) := by decide +kernel
theorem dX7_init_95 : decode cX7_init 95 = .ok (.newarray .int, 2) := by decide +kernel
theorem dX7_init_97 : decode cX7_init 97 = .ok (.putfield 47, 3) := by decide +kernel
theorem dX7_init_100 : decode cX7_init 100 = .ok (.aload_n 0, 1) := by decide +kernel
theorem dX7_init_101 : decode cX7_init 101 = .ok (.bipush 15, 2) := by decide +kernel
theorem dX7_init_103 : decode cX7_init 103 = .ok (.newarray .int, 2) := by decide +kernel
theorem dX7_init_105 : decode cX7_init 105 = .ok (.putfield 50, 3) := by decide +kernel
theorem dX7_init_108 : decode cX7_init 108 = .ok (.aload_n 0, 1) := by decide +kernel
theorem dX7_init_109 : decode cX7_init 109 = .ok (.bipush 8, 2) := by decide +kernel
theorem dX7_init_111 : decode cX7_init 111 = .ok (.newarray .int, 2) := by decide +kernel
theorem dX7_init_113 : decode cX7_init 113 = .ok (.putfield 53, 3) := by decide +kernel
theorem dX7_init_116 : decode cX7_init 116 = .ok (.aload_n 0, 1) := by decide +kernel
theorem dX7_init_117 : decode cX7_init 117 = .ok (.bipush 120, 2) := by decide +kernel
theorem dX7_init_119 : decode cX7_init 119 = .ok (.newarray .int, 2) := by decide +kernel
theorem dX7_init_121 : decode cX7_init 121 = .ok (.putfield 56, 3) := by decide +kernel
theorem dX7_init_124 : decode cX7_init 124 = .ok (.aload_n 0, 1) := by decide +kernel
theorem dX7_init_125 : decode cX7_init 125 = .ok (.iconst 5, 1) := by decide +kernel
theorem dX7_init_126 : decode cX7_init 126 = .ok (.newarray .int, 2) := by decide +kernel
theorem dX7_init_128 : decode cX7_init 128 = .ok (.putfield 59, 3) := by decide +kernel
theorem dX7_init_131 : decode cX7_init 131 = .ok (.aload_n 0, 1) := by decide +kernel
theorem dX7_init_132 : decode cX7_init 132 = .ok (.iconst 5, 1) := by decide +kernel
theorem dX7_init_133 : decode cX7_init 133 = .ok (.newarray .int, 2) := by decide +kernel
theorem dX7_init_135 : decode cX7_init 135 = .ok (.putfield 62, 3) := by decide +kernel
theorem dX7_init_138 : decode cX7_init 138 = .ok (.aload_n 0, 1) := by decide +kernel
theorem dX7_init_139 : decode cX7_init 139 = .ok (.lconst 1, 1) := by decide +kernel
theorem dX7_init_140 : decode cX7_init 140 = .ok (.putfield 65, 3) := by decide +kernel
theorem dX7_init_143 : decode cX7_init 143 = .ok (.aload_n 0, 1) := by decide +kernel
theorem dX7_init_144 : decode cX7_init 144 = .ok (.sipush 380, 3) := by decide +kernel
theorem dX7_init_147 : decode cX7_init 147 = .ok (.newarray .int, 2) := by decide +kernel
theorem dX7_init_149 : decode cX7_init 149 = .ok (.putfield 69, 3) := by decide +kernel
theorem dX7_init_152 : decode cX7_init 152 = .ok (.aload_n 0, 1) := by decide +kernel
theorem dX7_init_153 : decode cX7_init 153 = .ok (.iconst 2, 1) := by decide +kernel
theorem dX7_init_154 : decode cX7_init 154 = .ok (.newarray .int, 2) := by decide +kernel
theorem dX7_init_156 : decode cX7_init 156 = .ok (.putfield 72, 3) := by decide +kernel
theorem dX7_init_159 : decode cX7_init 159 = .ok (.aload_n 0, 1) := by decide +kernel
theorem dX7_init_160 : decode cX7_init 160 = .ok (.iconst 3, 1) := by decide +kernel
theorem dX7_init_161 : decode cX7_init 161 = .ok (.sipush 240, 3) := by decide +kernel
theorem dX7_init_164 : decode cX7_init 164 = .ok (.invokevirtual 75, 3) := by decide +kernel
theorem dX7_init_167 : decode cX7_init 167 = .ok (.return_, 1) := by decide +kernel
theorem dX7_begin_0 : decode cX7_begin 0 = .ok (.aload_n 0, 1) := by decide +kernel
theorem dX7_begin_1 : decode cX7_begin 1 = .ok (.iload_n 1, 1) := by decide +kernel
theorem dX7_begin_2 : decode cX7_begin 2 = .ok (.putfield 13, 3) := by decide +kernel
theorem dX7_begin_5 : decode cX7_begin 5 = .ok (.aload_n 0, 1) := by decide +kernel
theorem dX7_begin_6 : decode cX7_begin 6 = .ok (.iload_n 2, 1) := by decide +kernel
theorem dX7_begin_7 : decode cX7_begin 7 = .ok (.putfield 17, 3) := by decide +kernel
theorem dX7_begin_10 : decode cX7_begin 10 = .ok (.aload_n 0, 1) := by decide +kernel
theorem dX7_begin_11 : decode cX7_begin 11 = .ok (.iconst 0, 1) := by decide +kernel
theorem dX7_begin_12 : decode cX7_begin 12 = .ok (.putfield 79, 3) := by decide +kernel
theorem dX7_begin_15 : decode cX7_begin 15 = .ok (.aload_n 0, 1) := by decide +kernel
theorem dX7_begin_16 : decode cX7_begin 16 = .ok (.iconst 0, 1) := by decide +kernel
theorem dX7_begin_17 : decode cX7_begin 17 = .ok (.putfield 82, 3) := by decide +kernel
theorem dX7_begin_20 : decode cX7_begin 20 = .ok (.aload_n 0, 1) := by decide +kernel
theorem dX7_begin_21 : decode cX7_begin 21 = .ok (.iconst 0, 1) := by decide +kernel
theorem dX7_begin_22 : decode cX7_begin 22 = .ok (.putfield 85, 3) := by decide +kernel
theorem dX7_begin_25 : decode cX7_begin 25 = .ok (.iconst 0, 1) := by decide +kernel
theorem dX7_begin_26 : decode cX7_begin 26 = .ok (.istore_n 3, 1) := by decide +kernel
theorem dX7_begin_27 : decode cX7_begin 27 = .ok (.iload_n 3, 1) := by decide +kernel
theorem dX7_begin_28 : decode cX7_begin 28 = .ok (.bipush 8, 2) := by decide +kernel
theorem dX7_begin_30 : decode cX7_begin 30 = .ok (.if_icmp .ge 16, 3) := by decide +kernel
theorem dX7_begin_33 : decode cX7_begin 33 = .ok (.aload_n 0, 1) := by decide +kernel
theorem dX7_begin_34 : decode cX7_begin 34 = .ok (.getfield 20, 3) := by decide +kernel
theorem dX7_begin_37 : decode cX7_begin 37 = .ok (.iload_n 3, 1) := by decide +kernel
theorem dX7_begin_38 : decode cX7_begin 38 = .ok (.iconst 0, 1) := by decide +kernel
theorem dX7_begin_39 : decode cX7_begin 39 = .ok (.iastore, 1) := by decide +kernel
theorem dX7_begin_40 : decode cX7_begin 40 = .ok (.iinc 3 1, 3) := by decide +kernel
theorem dX7_begin_43 : decode cX7_begin 43 = .ok (.goto (-16), 3) := by decide +kernel
theorem dX7_begin_46 : decode cX7_begin 46 = .ok (.return_, 1) := by decide +kernel
theorem dX7_isOne_0 : decode cX7_isOne 0 = .ok (.iload_n 1, 1) := by decide +kernel
theorem dX7_isOne_1 : decode cX7_isOne 1 = .ok (.iconst 0, 1) := by decide +kernel
theorem dX7_isOne_2 : decode cX7_isOne 2 = .ok (.aload_n 0, 1) := by decide +kernel
theorem dX7_isOne_3 : decode cX7_isOne 3 = .ok (.getfield 79, 3) := by decide +kernel
theorem dX7_isOne_6 : decode cX7_isOne 6 = .ok (.iconst 1, 1) := by decide +kernel
theorem dX7_isOne_7 : decode cX7_isOne 7 = .ok (.isub, 1) := by decide +kernel
theorem dX7_isOne_8 : decode cX7_isOne 8 = .ok (.invokestatic 88, 3) := by decide +kernel
theorem dX7_isOne_11 : decode cX7_isOne 11 = .ok (.ireturn, 1) := by decide +kernel
theorem dX7_isYard_0 : decode cX7_isYard 0 = .ok (.iload_n 0, 1) := by decide +kernel
theorem dX7_isYard_1 : decode cX7_isYard 1 = .ok (.iconst 0, 1) := by decide +kernel
theorem dX7_isYard_2 : decode cX7_isYard 2 = .ok (.bipush 7, 2) := by decide +kernel
theorem dX7_isYard_4 : decode cX7_isYard 4 = .ok (.invokestatic 88, 3) := by decide +kernel
theorem dX7_isYard_7 : decode cX7_isYard 7 = .ok (.ireturn, 1) := by decide +kernel
theorem dX7_hill_0 : decode cX7_hill 0 = .ok (.iload_n 1, 1) := by decide +kernel
theorem dX7_hill_1 : decode cX7_hill 1 = .ok (.invokestatic 92, 3) := by decide +kernel
theorem dX7_hill_4 : decode cX7_hill 4 = .ok (.ifCond .eq 14, 3) := by decide +kernel
theorem dX7_hill_7 : decode cX7_hill 7 = .ok (.iload_n 2, 1) := by decide +kernel
theorem dX7_hill_8 : decode cX7_hill 8 = .ok (.iconst 0, 1) := by decide +kernel
theorem dX7_hill_9 : decode cX7_hill 9 = .ok (.sipush 240, 3) := by decide +kernel
theorem dX7_hill_12 : decode cX7_hill 12 = .ok (.invokestatic 88, 3) := by decide +kernel
theorem dX7_hill_15 : decode cX7_hill 15 = .ok (.ifCond .ne 8, 3) := by decide +kernel
theorem dX7_hill_18 : decode cX7_hill 18 = .ok (.aload_n 0, 1) := by decide +kernel
theorem dX7_hill_19 : decode cX7_hill 19 = .ok (.invokevirtual 96, 3) := by decide +kernel
theorem dX7_hill_22 : decode cX7_hill 22 = .ok (.ireturn, 1) := by decide +kernel
theorem dX7_hill_23 : decode cX7_hill 23 = .ok (.aload_n 0, 1) := by decide +kernel
theorem dX7_hill_24 : decode cX7_hill 24 = .ok (.getfield 79, 3) := by decide +kernel
theorem dX7_hill_27 : decode cX7_hill 27 = .ok (.istore_n 3, 1) := by decide +kernel
theorem dX7_hill_28 : decode cX7_hill 28 = .ok (.aload_n 0, 1) := by decide +kernel
theorem dX7_hill_29 : decode cX7_hill 29 = .ok (.iload_n 1, 1) := by decide +kernel
theorem dX7_hill_30 : decode cX7_hill 30 = .ok (.iload_n 2, 1) := by decide +kernel
theorem dX7_hill_31 : decode cX7_hill 31 = .ok (.invokevirtual 75, 3) := by decide +kernel
theorem dX7_hill_34 : decode cX7_hill 34 = .ok (.iload_n 3, 1) := by decide +kernel
theorem dX7_hill_35 : decode cX7_hill 35 = .ok (.ireturn, 1) := by decide +kernel
theorem dX7_track_0 : decode cX7_track 0 = .ok (.iload_n 1, 1) := by decide +kernel
theorem dX7_track_1 : decode cX7_track 1 = .ok (.invokestatic 92, 3) := by decide +kernel
theorem dX7_track_4 : decode cX7_track 4 = .ok (.ifCond .eq 14, 3) := by decide +kernel
theorem dX7_track_7 : decode cX7_track 7 = .ok (.iload_n 2, 1) := by decide +kernel
theorem dX7_track_8 : decode cX7_track 8 = .ok (.iconst 0, 1) := by decide +kernel
theorem dX7_track_9 : decode cX7_track 9 = .ok (.sipush 240, 3) := by decide +kernel
theorem dX7_track_12 : decode cX7_track 12 = .ok (.invokestatic 88, 3) := by decide +kernel
theorem dX7_track_15 : decode cX7_track 15 = .ok (.ifCond .ne 8, 3) := by decide +kernel
theorem dX7_track_18 : decode cX7_track 18 = .ok (.aload_n 0, 1) := by decide +kernel
theorem dX7_track_19 : decode cX7_track 19 = .ok (.invokevirtual 96, 3) := by decide +kernel
theorem dX7_track_22 : decode cX7_track 22 = .ok (.ireturn, 1) := by decide +kernel
theorem dX7_track_23 : decode cX7_track 23 = .ok (.aload_n 0, 1) := by decide +kernel
theorem dX7_track_24 : decode cX7_track 24 = .ok (.iload_n 1, 1) := by decide +kernel
theorem dX7_track_25 : decode cX7_track 25 = .ok (.putfield 13, 3) := by decide +kernel
theorem dX7_track_28 : decode cX7_track 28 = .ok (.aload_n 0, 1) := by decide +kernel
theorem dX7_track_29 : decode cX7_track 29 = .ok (.iload_n 2, 1) := by decide +kernel
theorem dX7_track_30 : decode cX7_track 30 = .ok (.putfield 17, 3) := by decide +kernel
theorem dX7_track_33 : decode cX7_track 33 = .ok (.aload_n 0, 1) := by decide +kernel
theorem dX7_track_34 : decode cX7_track 34 = .ok (.iconst 0, 1) := by decide +kernel
theorem dX7_track_35 : decode cX7_track 35 = .ok (.putfield 85, 3) := by decide +kernel
theorem dX7_track_38 : decode cX7_track 38 = .ok (.iconst 1, 1) := by decide +kernel
theorem dX7_track_39 : decode cX7_track 39 = .ok (.ireturn, 1) := by decide +kernel
theorem dX7_height_0 : decode cX7_height 0 = .ok (.iload_n 1, 1) := by decide +kernel
theorem dX7_height_1 : decode cX7_height 1 = .ok (.invokestatic 92, 3) := by decide +kernel
theorem dX7_height_4 : decode cX7_height 4 = .ok (.ifCond .eq 13, 3) := by decide +kernel
theorem dX7_height_7 : decode cX7_height 7 = .ok (.iload_n 2, 1) := by decide +kernel
theorem dX7_height_8 : decode cX7_height 8 = .ok (.iconst 0, 1) := by decide +kernel
theorem dX7_height_9 : decode cX7_height 9 = .ok (.bipush 9, 2) := by decide +kernel
theorem dX7_height_11 : decode cX7_height 11 = .ok (.invokestatic 88, 3) := by decide +kernel
theorem dX7_height_14 : decode cX7_height 14 = .ok (.ifCond .ne 8, 3) := by decide +kernel
theorem dX7_height_17 : decode cX7_height 17 = .ok (.aload_n 0, 1) := by decide +kernel
theorem dX7_height_18 : decode cX7_height 18 = .ok (.invokevirtual 96, 3) := by decide +kernel
theorem dX7_height_21 : decode cX7_height 21 = .ok (.ireturn, 1) := by decide +kernel
theorem dX7_height_22 : decode cX7_height 22 = .ok (.aload_n 0, 1) := by decide +kernel
theorem dX7_height_23 : decode cX7_height 23 = .ok (.getfield 20, 3) := by decide +kernel
theorem dX7_height_26 : decode cX7_height 26 = .ok (.iload_n 1, 1) := by decide +kernel
theorem dX7_height_27 : decode cX7_height 27 = .ok (.iaload, 1) := by decide +kernel
theorem dX7_height_28 : decode cX7_height 28 = .ok (.istore_n 3, 1) := by decide +kernel
theorem dX7_height_29 : decode cX7_height 29 = .ok (.aload_n 0, 1) := by decide +kernel
theorem dX7_height_30 : decode cX7_height 30 = .ok (.getfield 20, 3) := by decide +kernel
theorem dX7_height_33 : decode cX7_height 33 = .ok (.iload_n 1, 1) := by decide +kernel
theorem dX7_height_34 : decode cX7_height 34 = .ok (.iload_n 2, 1) := by decide +kernel
theorem dX7_height_35 : decode cX7_height 35 = .ok (.iastore, 1) := by decide +kernel
theorem dX7_height_36 : decode cX7_height 36 = .ok (.aload_n 0, 1) := by decide +kernel
theorem dX7_height_37 : decode cX7_height 37 = .ok (.iconst 0, 1) := by decide +kernel
theorem dX7_height_38 : decode cX7_height 38 = .ok (.putfield 85, 3) := by decide +kernel
theorem dX7_height_41 : decode cX7_height 41 = .ok (.iload_n 3, 1) := by decide +kernel
theorem dX7_height_42 : decode cX7_height 42 = .ok (.ireturn, 1) := by decide +kernel
theorem dX7_addOne_0 : decode cX7_addOne 0 = .ok (.aload_n 0, 1) := by decide +kernel
theorem dX7_addOne_1 : decode cX7_addOne 1 = .ok (.getfield 23, 3) := by decide +kernel
theorem dX7_addOne_4 : decode cX7_addOne 4 = .ok (.aload_n 0, 1) := by decide +kernel
theorem dX7_addOne_5 : decode cX7_addOne 5 = .ok (.getfield 79, 3) := by decide +kernel
theorem dX7_addOne_8 : decode cX7_addOne 8 = .ok (.iload_n 1, 1) := by decide +kernel
theorem dX7_addOne_9 : decode cX7_addOne 9 = .ok (.iastore, 1) := by decide +kernel
theorem dX7_addOne_10 : decode cX7_addOne 10 = .ok (.aload_n 0, 1) := by decide +kernel
theorem dX7_addOne_11 : decode cX7_addOne 11 = .ok (.getfield 26, 3) := by decide +kernel
theorem dX7_addOne_14 : decode cX7_addOne 14 = .ok (.aload_n 0, 1) := by decide +kernel
theorem dX7_addOne_15 : decode cX7_addOne 15 = .ok (.getfield 79, 3) := by decide +kernel
theorem dX7_addOne_18 : decode cX7_addOne 18 = .ok (.iload_n 2, 1) := by decide +kernel
theorem dX7_addOne_19 : decode cX7_addOne 19 = .ok (.iastore, 1) := by decide +kernel
theorem dX7_addOne_20 : decode cX7_addOne 20 = .ok (.aload_n 0, 1) := by decide +kernel
theorem dX7_addOne_21 : decode cX7_addOne 21 = .ok (.getfield 29, 3) := by decide +kernel
theorem dX7_addOne_24 : decode cX7_addOne 24 = .ok (.aload_n 0, 1) := by decide +kernel
theorem dX7_addOne_25 : decode cX7_addOne 25 = .ok (.getfield 79, 3) := by decide +kernel
theorem dX7_addOne_28 : decode cX7_addOne 28 = .ok (.iconst 0, 1) := by decide +kernel
theorem dX7_addOne_29 : decode cX7_addOne 29 = .ok (.iastore, 1) := by decide +kernel
theorem dX7_addOne_30 : decode cX7_addOne 30 = .ok (.aload_n 0, 1) := by decide +kernel
theorem dX7_addOne_31 : decode cX7_addOne 31 = .ok (.getfield 32, 3) := by decide +kernel
theorem dX7_addOne_34 : decode cX7_addOne 34 = .ok (.aload_n 0, 1) := by decide +kernel
theorem dX7_addOne_35 : decode cX7_addOne 35 = .ok (.getfield 79, 3) := by decide +kernel
theorem dX7_addOne_38 : decode cX7_addOne 38 = .ok (.iconst (-1), 1) := by decide +kernel
theorem dX7_addOne_39 : decode cX7_addOne 39 = .ok (.iastore, 1) := by decide +kernel
theorem dX7_addOne_40 : decode cX7_addOne 40 = .ok (.aload_n 0, 1) := by decide +kernel
theorem dX7_addOne_41 : decode cX7_addOne 41 = .ok (.dup, 1) := by decide +kernel
theorem dX7_addOne_42 : decode cX7_addOne 42 = .ok (.getfield 79, 3) := by decide +kernel
theorem dX7_addOne_45 : decode cX7_addOne 45 = .ok (.iconst 1, 1) := by decide +kernel
theorem dX7_addOne_46 : decode cX7_addOne 46 = .ok (.iadd, 1) := by decide +kernel
theorem dX7_addOne_47 : decode cX7_addOne 47 = .ok (.putfield 79, 3) := by decide +kernel
theorem dX7_addOne_50 : decode cX7_addOne 50 = .ok (.aload_n 0, 1) := by decide +kernel
theorem dX7_addOne_51 : decode cX7_addOne 51 = .ok (.iconst 0, 1) := by decide +kernel
theorem dX7_addOne_52 : decode cX7_addOne 52 = .ok (.putfield 85, 3) := by decide +kernel
theorem dX7_addOne_55 : decode cX7_addOne 55 = .ok (.aload_n 0, 1) := by decide +kernel
theorem dX7_addOne_56 : decode cX7_addOne 56 = .ok (.getfield 79, 3) := by decide +kernel
theorem dX7_addOne_59 : decode cX7_addOne 59 = .ok (.iconst 1, 1) := by decide +kernel
theorem dX7_addOne_60 : decode cX7_addOne 60 = .ok (.isub, 1) := by decide +kernel
theorem dX7_addOne_61 : decode cX7_addOne 61 = .ok (.ireturn, 1) := by decide +kernel
theorem dX7_one_0 : decode cX7_one 0 = .ok (.iload_n 1, 1) := by decide +kernel
theorem dX7_one_1 : decode cX7_one 1 = .ok (.iconst 0, 1) := by decide +kernel
theorem dX7_one_2 : decode cX7_one 2 = .ok (.iconst 5, 1) := by decide +kernel
theorem dX7_one_3 : decode cX7_one 3 = .ok (.invokestatic 88, 3) := by decide +kernel
theorem dX7_one_6 : decode cX7_one 6 = .ok (.ifCond .eq 14, 3) := by decide +kernel
theorem dX7_one_9 : decode cX7_one 9 = .ok (.iload_n 2, 1) := by decide +kernel
theorem dX7_one_10 : decode cX7_one 10 = .ok (.iconst 0, 1) := by decide +kernel
theorem dX7_one_11 : decode cX7_one 11 = .ok (.sipush 500, 3) := by decide +kernel
theorem dX7_one_14 : decode cX7_one 14 = .ok (.invokestatic 88, 3) := by decide +kernel
theorem dX7_one_17 : decode cX7_one 17 = .ok (.ifCond .ne 8, 3) := by decide +kernel
theorem dX7_one_20 : decode cX7_one 20 = .ok (.aload_n 0, 1) := by decide +kernel
theorem dX7_one_21 : decode cX7_one 21 = .ok (.invokevirtual 96, 3) := by decide +kernel
theorem dX7_one_24 : decode cX7_one 24 = .ok (.ireturn, 1) := by decide +kernel
theorem dX7_one_25 : decode cX7_one 25 = .ok (.aload_n 0, 1) := by decide +kernel
theorem dX7_one_26 : decode cX7_one 26 = .ok (.getfield 79, 3) := by decide +kernel
theorem dX7_one_29 : decode cX7_one 29 = .ok (.iconst 5, 1) := by decide +kernel
theorem dX7_one_30 : decode cX7_one 30 = .ok (.if_icmp .ne 10, 3) := by decide +kernel
theorem dX7_one_33 : decode cX7_one 33 = .ok (.aload_n 0, 1) := by decide +kernel
theorem dX7_one_34 : decode cX7_one 34 = .ok (.invokevirtual 100, 3) := by decide +kernel
theorem dX7_one_37 : decode cX7_one 37 = .ok (.goto 9, 3) := by decide +kernel
theorem dX7_one_40 : decode cX7_one 40 = .ok (.aload_n 0, 1) := by decide +kernel
theorem dX7_one_41 : decode cX7_one 41 = .ok (.iload_n 1, 1) := by decide +kernel
theorem dX7_one_42 : decode cX7_one 42 = .ok (.iload_n 2, 1) := by decide +kernel
theorem dX7_one_43 : decode cX7_one 43 = .ok (.invokevirtual 103, 3) := by decide +kernel
theorem dX7_one_46 : decode cX7_one 46 = .ok (.ireturn, 1) := by decide +kernel
theorem dX7_type_0 : decode cX7_type 0 = .ok (.iload_n 1, 1) := by decide +kernel
theorem dX7_type_1 : decode cX7_type 1 = .ok (.iconst 0, 1) := by decide +kernel
theorem dX7_type_2 : decode cX7_type 2 = .ok (.bipush 127, 2) := by decide +kernel
theorem dX7_type_4 : decode cX7_type 4 = .ok (.invokestatic 88, 3) := by decide +kernel
theorem dX7_type_7 : decode cX7_type 7 = .ok (.ifCond .ne 8, 3) := by decide +kernel
theorem dX7_type_10 : decode cX7_type 10 = .ok (.aload_n 0, 1) := by decide +kernel
theorem dX7_type_11 : decode cX7_type 11 = .ok (.invokevirtual 96, 3) := by decide +kernel
theorem dX7_type_14 : decode cX7_type 14 = .ok (.ireturn, 1) := by decide +kernel
theorem dX7_type_15 : decode cX7_type 15 = .ok (.aload_n 0, 1) := by decide +kernel
theorem dX7_type_16 : decode cX7_type 16 = .ok (.getfield 107, 3) := by decide +kernel
theorem dX7_type_19 : decode cX7_type 19 = .ok (.sipush 150, 3) := by decide +kernel
theorem dX7_type_22 : decode cX7_type 22 = .ok (.if_icmp .ne 8, 3) := by decide +kernel
theorem dX7_type_25 : decode cX7_type 25 = .ok (.aload_n 0, 1) := by decide +kernel
theorem dX7_type_26 : decode cX7_type 26 = .ok (.invokevirtual 100, 3) := by decide +kernel
theorem dX7_type_29 : decode cX7_type 29 = .ok (.ireturn, 1) := by decide +kernel
theorem dX7_type_30 : decode cX7_type 30 = .ok (.aload_n 0, 1) := by decide +kernel
theorem dX7_type_31 : decode cX7_type 31 = .ok (.getfield 47, 3) := by decide +kernel
theorem dX7_type_34 : decode cX7_type 34 = .ok (.aload_n 0, 1) := by decide +kernel
theorem dX7_type_35 : decode cX7_type 35 = .ok (.getfield 107, 3) := by decide +kernel
theorem dX7_type_38 : decode cX7_type 38 = .ok (.iload_n 1, 1) := by decide +kernel
theorem dX7_type_39 : decode cX7_type 39 = .ok (.iastore, 1) := by decide +kernel
theorem dX7_type_40 : decode cX7_type 40 = .ok (.aload_n 0, 1) := by decide +kernel
theorem dX7_type_41 : decode cX7_type 41 = .ok (.dup, 1) := by decide +kernel
theorem dX7_type_42 : decode cX7_type 42 = .ok (.getfield 107, 3) := by decide +kernel
theorem dX7_type_45 : decode cX7_type 45 = .ok (.iconst 1, 1) := by decide +kernel
theorem dX7_type_46 : decode cX7_type 46 = .ok (.iadd, 1) := by decide +kernel
theorem dX7_type_47 : decode cX7_type 47 = .ok (.putfield 107, 3) := by decide +kernel
theorem dX7_type_50 : decode cX7_type 50 = .ok (.aload_n 0, 1) := by decide +kernel
theorem dX7_type_51 : decode cX7_type 51 = .ok (.getfield 107, 3) := by decide +kernel
theorem dX7_type_54 : decode cX7_type 54 = .ok (.ireturn, 1) := by decide +kernel
theorem dX7_clear_0 : decode cX7_clear 0 = .ok (.aload_n 0, 1) := by decide +kernel
theorem dX7_clear_1 : decode cX7_clear 1 = .ok (.getfield 107, 3) := by decide +kernel
theorem dX7_clear_4 : decode cX7_clear 4 = .ok (.istore_n 1, 1) := by decide +kernel
theorem dX7_clear_5 : decode cX7_clear 5 = .ok (.aload_n 0, 1) := by decide +kernel
theorem dX7_clear_6 : decode cX7_clear 6 = .ok (.iconst 0, 1) := by decide +kernel
theorem dX7_clear_7 : decode cX7_clear 7 = .ok (.putfield 107, 3) := by decide +kernel
theorem dX7_clear_10 : decode cX7_clear 10 = .ok (.iload_n 1, 1) := by decide +kernel
theorem dX7_clear_11 : decode cX7_clear 11 = .ok (.ireturn, 1) := by decide +kernel
theorem dX7_here_0 : decode cX7_here 0 = .ok (.aload_n 0, 1) := by decide +kernel
theorem dX7_here_1 : decode cX7_here 1 = .ok (.getfield 110, 3) := by decide +kernel
theorem dX7_here_4 : decode cX7_here 4 = .ok (.aload_n 0, 1) := by decide +kernel
theorem dX7_here_5 : decode cX7_here 5 = .ok (.getfield 107, 3) := by decide +kernel
theorem dX7_here_8 : decode cX7_here 8 = .ok (.if_icmp .ge 15, 3) := by decide +kernel
theorem dX7_here_11 : decode cX7_here 11 = .ok (.aload_n 0, 1) := by decide +kernel
theorem dX7_here_12 : decode cX7_here 12 = .ok (.getfield 47, 3) := by decide +kernel
theorem dX7_here_15 : decode cX7_here 15 = .ok (.aload_n 0, 1) := by decide +kernel
theorem dX7_here_16 : decode cX7_here 16 = .ok (.getfield 110, 3) := by decide +kernel
theorem dX7_here_19 : decode cX7_here 19 = .ok (.iaload, 1) := by decide +kernel
theorem dX7_here_20 : decode cX7_here 20 = .ok (.goto 4, 3) := by decide +kernel
theorem dX7_here_23 : decode cX7_here 23 = .ok (.iconst (-1), 1) := by decide +kernel
theorem dX7_here_24 : decode cX7_here 24 = .ok (.ireturn, 1) := by decide +kernel
theorem dX7_skip_0 : decode cX7_skip 0 = .ok (.aload_n 0, 1) := by decide +kernel
theorem dX7_skip_1 : decode cX7_skip 1 = .ok (.invokevirtual 113, 3) := by decide +kernel
theorem dX7_skip_4 : decode cX7_skip 4 = .ok (.bipush 32, 2) := by decide +kernel
theorem dX7_skip_6 : decode cX7_skip 6 = .ok (.if_icmp .ne 16, 3) := by decide +kernel
theorem dX7_skip_9 : decode cX7_skip 9 = .ok (.aload_n 0, 1) := by decide +kernel
theorem dX7_skip_10 : decode cX7_skip 10 = .ok (.dup, 1) := by decide +kernel
theorem dX7_skip_11 : decode cX7_skip 11 = .ok (.getfield 110, 3) := by decide +kernel
theorem dX7_skip_14 : decode cX7_skip 14 = .ok (.iconst 1, 1) := by decide +kernel
theorem dX7_skip_15 : decode cX7_skip 15 = .ok (.iadd, 1) := by decide +kernel
theorem dX7_skip_16 : decode cX7_skip 16 = .ok (.putfield 110, 3) := by decide +kernel
theorem dX7_skip_19 : decode cX7_skip 19 = .ok (.goto (-19), 3) := by decide +kernel
theorem dX7_skip_22 : decode cX7_skip 22 = .ok (.return_, 1) := by decide +kernel
theorem dX7_isLetter_0 : decode cX7_isLetter 0 = .ok (.iload_n 0, 1) := by decide +kernel
theorem dX7_isLetter_1 : decode cX7_isLetter 1 = .ok (.bipush 97, 2) := by decide +kernel
theorem dX7_isLetter_3 : decode cX7_isLetter 3 = .ok (.bipush 122, 2) := by decide +kernel
theorem dX7_isLetter_5 : decode cX7_isLetter 5 = .ok (.invokestatic 88, 3) := by decide +kernel
theorem dX7_isLetter_8 : decode cX7_isLetter 8 = .ok (.ireturn, 1) := by decide +kernel
theorem dX7_isFigure_0 : decode cX7_isFigure 0 = .ok (.iload_n 0, 1) := by decide +kernel
theorem dX7_isFigure_1 : decode cX7_isFigure 1 = .ok (.bipush 48, 2) := by decide +kernel
theorem dX7_isFigure_3 : decode cX7_isFigure 3 = .ok (.bipush 57, 2) := by decide +kernel
theorem dX7_isFigure_5 : decode cX7_isFigure 5 = .ok (.invokestatic 88, 3) := by decide +kernel
theorem dX7_isFigure_8 : decode cX7_isFigure 8 = .ok (.ireturn, 1) := by decide +kernel
theorem dX7_wordSize_0 : decode cX7_wordSize 0 = .ok (.iconst 0, 1) := by decide +kernel
theorem dX7_wordSize_1 : decode cX7_wordSize 1 = .ok (.istore_n 1, 1) := by decide +kernel
theorem dX7_wordSize_2 : decode cX7_wordSize 2 = .ok (.aload_n 0, 1) := by decide +kernel
theorem dX7_wordSize_3 : decode cX7_wordSize 3 = .ok (.getfield 110, 3) := by decide +kernel
theorem dX7_wordSize_6 : decode cX7_wordSize 6 = .ok (.iload_n 1, 1) := by decide +kernel
theorem dX7_wordSize_7 : decode cX7_wordSize 7 = .ok (.iadd, 1) := by decide +kernel
theorem dX7_wordSize_8 : decode cX7_wordSize 8 = .ok (.aload_n 0, 1) := by decide +kernel
theorem dX7_wordSize_9 : decode cX7_wordSize 9 = .ok (.getfield 107, 3) := by decide +kernel
theorem dX7_wordSize_12 : decode cX7_wordSize 12 = .ok (.if_icmp .ge 26, 3) := by decide +kernel
theorem dX7_wordSize_15 : decode cX7_wordSize 15 = .ok (.aload_n 0, 1) := by decide +kernel
theorem dX7_wordSize_16 : decode cX7_wordSize 16 = .ok (.getfield 47, 3) := by decide +kernel
theorem dX7_wordSize_19 : decode cX7_wordSize 19 = .ok (.aload_n 0, 1) := by decide +kernel
theorem dX7_wordSize_20 : decode cX7_wordSize 20 = .ok (.getfield 110, 3) := by decide +kernel
theorem dX7_wordSize_23 : decode cX7_wordSize 23 = .ok (.iload_n 1, 1) := by decide +kernel
theorem dX7_wordSize_24 : decode cX7_wordSize 24 = .ok (.iadd, 1) := by decide +kernel
theorem dX7_wordSize_25 : decode cX7_wordSize 25 = .ok (.iaload, 1) := by decide +kernel
theorem dX7_wordSize_26 : decode cX7_wordSize 26 = .ok (.invokestatic 116, 3) := by decide +kernel
theorem dX7_wordSize_29 : decode cX7_wordSize 29 = .ok (.ifCond .eq 9, 3) := by decide +kernel
theorem dX7_wordSize_32 : decode cX7_wordSize 32 = .ok (.iinc 1 1, 3) := by decide +kernel
theorem dX7_wordSize_35 : decode cX7_wordSize 35 = .ok (.goto (-33), 3) := by decide +kernel
theorem dX7_wordSize_38 : decode cX7_wordSize 38 = .ok (.iload_n 1, 1) := by decide +kernel
theorem dX7_wordSize_39 : decode cX7_wordSize 39 = .ok (.ireturn, 1) := by decide +kernel
theorem dX7_letter_0 : decode cX7_letter 0 = .ok (.aload_n 0, 1) := by decide +kernel
theorem dX7_letter_1 : decode cX7_letter 1 = .ok (.getfield 47, 3) := by decide +kernel
theorem dX7_letter_4 : decode cX7_letter 4 = .ok (.aload_n 0, 1) := by decide +kernel
theorem dX7_letter_5 : decode cX7_letter 5 = .ok (.getfield 110, 3) := by decide +kernel
theorem dX7_letter_8 : decode cX7_letter 8 = .ok (.iload_n 1, 1) := by decide +kernel
theorem dX7_letter_9 : decode cX7_letter 9 = .ok (.iadd, 1) := by decide +kernel
theorem dX7_letter_10 : decode cX7_letter 10 = .ok (.iaload, 1) := by decide +kernel
theorem dX7_letter_11 : decode cX7_letter 11 = .ok (.ireturn, 1) := by decide +kernel
theorem dX7_spells_0 : decode cX7_spells 0 = .ok (.aload_n 0, 1) := by decide +kernel
theorem dX7_spells_1 : decode cX7_spells 1 = .ok (.iconst 0, 1) := by decide +kernel
theorem dX7_spells_2 : decode cX7_spells 2 = .ok (.invokevirtual 119, 3) := by decide +kernel
theorem dX7_spells_5 : decode cX7_spells 5 = .ok (.iload_n 1, 1) := by decide +kernel
theorem dX7_spells_6 : decode cX7_spells 6 = .ok (.if_icmp .ne 35, 3) := by decide +kernel
theorem dX7_spells_9 : decode cX7_spells 9 = .ok (.aload_n 0, 1) := by decide +kernel
theorem dX7_spells_10 : decode cX7_spells 10 = .ok (.iconst 1, 1) := by decide +kernel
theorem dX7_spells_11 : decode cX7_spells 11 = .ok (.invokevirtual 119, 3) := by decide +kernel
theorem dX7_spells_14 : decode cX7_spells 14 = .ok (.iload_n 2, 1) := by decide +kernel
theorem dX7_spells_15 : decode cX7_spells 15 = .ok (.if_icmp .ne 26, 3) := by decide +kernel
theorem dX7_spells_18 : decode cX7_spells 18 = .ok (.aload_n 0, 1) := by decide +kernel
theorem dX7_spells_19 : decode cX7_spells 19 = .ok (.iconst 2, 1) := by decide +kernel
theorem dX7_spells_20 : decode cX7_spells 20 = .ok (.invokevirtual 119, 3) := by decide +kernel
theorem dX7_spells_23 : decode cX7_spells 23 = .ok (.iload_n 3, 1) := by decide +kernel
theorem dX7_spells_24 : decode cX7_spells 24 = .ok (.if_icmp .ne 17, 3) := by decide +kernel
theorem dX7_spells_27 : decode cX7_spells 27 = .ok (.aload_n 0, 1) := by decide +kernel
theorem dX7_spells_28 : decode cX7_spells 28 = .ok (.iconst 3, 1) := by decide +kernel
theorem dX7_spells_29 : decode cX7_spells 29 = .ok (.invokevirtual 119, 3) := by decide +kernel
theorem dX7_spells_32 : decode cX7_spells 32 = .ok (.iload 4, 2) := by decide +kernel
theorem dX7_spells_34 : decode cX7_spells 34 = .ok (.if_icmp .ne 7, 3) := by decide +kernel
theorem dX7_spells_37 : decode cX7_spells 37 = .ok (.iconst 1, 1) := by decide +kernel
theorem dX7_spells_38 : decode cX7_spells 38 = .ok (.goto 4, 3) := by decide +kernel
theorem dX7_spells_41 : decode cX7_spells 41 = .ok (.iconst 0, 1) := by decide +kernel
theorem dX7_spells_42 : decode cX7_spells 42 = .ok (.ireturn, 1) := by decide +kernel
theorem dX7_wordHere_0 : decode cX7_wordHere 0 = .ok (.aload_n 0, 1) := by decide +kernel
theorem dX7_wordHere_1 : decode cX7_wordHere 1 = .ok (.invokevirtual 123, 3) := by decide +kernel
theorem dX7_wordHere_4 : decode cX7_wordHere 4 = .ok (.istore_n 1, 1) := by decide +kernel
theorem dX7_wordHere_5 : decode cX7_wordHere 5 = .ok (.iload_n 1, 1) := by decide +kernel
theorem dX7_wordHere_6 : decode cX7_wordHere 6 = .ok (.bipush 7, 2) := by decide +kernel
theorem dX7_wordHere_8 : decode cX7_wordHere 8 = .ok (.if_icmp .ne 51, 3) := by decide +kernel
theorem dX7_wordHere_11 : decode cX7_wordHere 11 = .ok (.aload_n 0, 1) := by decide +kernel
theorem dX7_wordHere_12 : decode cX7_wordHere 12 = .ok (.bipush 104, 2) := by decide +kernel
theorem dX7_wordHere_14 : decode cX7_wordHere 14 = .ok (.bipush 101, 2) := by decide +kernel
theorem dX7_wordHere_16 : decode cX7_wordHere 16 = .ok (.bipush 105, 2) := by decide +kernel
theorem dX7_wordHere_18 : decode cX7_wordHere 18 = .ok (.bipush 103, 2) := by decide +kernel
theorem dX7_wordHere_20 : decode cX7_wordHere 20 = .ok (.invokevirtual 126, 3) := by decide +kernel
theorem dX7_wordHere_23 : decode cX7_wordHere 23 = .ok (.ifCond .eq 36, 3) := by decide +kernel
theorem dX7_wordHere_26 : decode cX7_wordHere 26 = .ok (.aload_n 0, 1) := by decide +kernel
theorem dX7_wordHere_27 : decode cX7_wordHere 27 = .ok (.iconst 4, 1) := by decide +kernel
theorem dX7_wordHere_28 : decode cX7_wordHere 28 = .ok (.invokevirtual 119, 3) := by decide +kernel
theorem dX7_wordHere_31 : decode cX7_wordHere 31 = .ok (.bipush 104, 2) := by decide +kernel
theorem dX7_wordHere_33 : decode cX7_wordHere 33 = .ok (.if_icmp .ne 26, 3) := by decide +kernel
theorem dX7_wordHere_36 : decode cX7_wordHere 36 = .ok (.aload_n 0, 1) := by decide +kernel
theorem dX7_wordHere_37 : decode cX7_wordHere 37 = .ok (.iconst 5, 1) := by decide +kernel
theorem dX7_wordHere_38 : decode cX7_wordHere 38 = .ok (.invokevirtual 119, 3) := by decide +kernel
theorem dX7_wordHere_41 : decode cX7_wordHere 41 = .ok (.bipush 116, 2) := by decide +kernel
theorem dX7_wordHere_43 : decode cX7_wordHere 43 = .ok (.if_icmp .ne 16, 3) := by decide +kernel
theorem dX7_wordHere_46 : decode cX7_wordHere 46 = .ok (.aload_n 0, 1) := by decide +kernel
theorem dX7_wordHere_47 : decode cX7_wordHere 47 = .ok (.bipush 6, 2) := by decide +kernel
theorem dX7_wordHere_49 : decode cX7_wordHere 49 = .ok (.invokevirtual 119, 3) := by decide +kernel
theorem dX7_wordHere_52 : decode cX7_wordHere 52 = .ok (.bipush 115, 2) := by decide +kernel
theorem dX7_wordHere_54 : decode cX7_wordHere 54 = .ok (.if_icmp .ne 5, 3) := by decide +kernel
theorem dX7_wordHere_57 : decode cX7_wordHere 57 = .ok (.iconst 2, 1) := by decide +kernel
theorem dX7_wordHere_58 : decode cX7_wordHere 58 = .ok (.ireturn, 1) := by decide +kernel
theorem dX7_wordHere_59 : decode cX7_wordHere 59 = .ok (.iload_n 1, 1) := by decide +kernel
theorem dX7_wordHere_60 : decode cX7_wordHere 60 = .ok (.iconst 3, 1) := by decide +kernel
theorem dX7_wordHere_61 : decode cX7_wordHere 61 = .ok (.if_icmp .ne 35, 3) := by decide +kernel
theorem dX7_wordHere_64 : decode cX7_wordHere 64 = .ok (.aload_n 0, 1) := by decide +kernel
theorem dX7_wordHere_65 : decode cX7_wordHere 65 = .ok (.iconst 0, 1) := by decide +kernel
theorem dX7_wordHere_66 : decode cX7_wordHere 66 = .ok (.invokevirtual 119, 3) := by decide +kernel
theorem dX7_wordHere_69 : decode cX7_wordHere 69 = .ok (.bipush 111, 2) := by decide +kernel
theorem dX7_wordHere_71 : decode cX7_wordHere 71 = .ok (.if_icmp .ne 25, 3) := by decide +kernel
theorem dX7_wordHere_74 : decode cX7_wordHere 74 = .ok (.aload_n 0, 1) := by decide +kernel
theorem dX7_wordHere_75 : decode cX7_wordHere 75 = .ok (.iconst 1, 1) := by decide +kernel
theorem dX7_wordHere_76 : decode cX7_wordHere 76 = .ok (.invokevirtual 119, 3) := by decide +kernel
theorem dX7_wordHere_79 : decode cX7_wordHere 79 = .ok (.bipush 110, 2) := by decide +kernel
theorem dX7_wordHere_81 : decode cX7_wordHere 81 = .ok (.if_icmp .ne 15, 3) := by decide +kernel
theorem dX7_wordHere_84 : decode cX7_wordHere 84 = .ok (.aload_n 0, 1) := by decide +kernel
theorem dX7_wordHere_85 : decode cX7_wordHere 85 = .ok (.iconst 2, 1) := by decide +kernel
theorem dX7_wordHere_86 : decode cX7_wordHere 86 = .ok (.invokevirtual 119, 3) := by decide +kernel
theorem dX7_wordHere_89 : decode cX7_wordHere 89 = .ok (.bipush 101, 2) := by decide +kernel
theorem dX7_wordHere_91 : decode cX7_wordHere 91 = .ok (.if_icmp .ne 5, 3) := by decide +kernel
theorem dX7_wordHere_94 : decode cX7_wordHere 94 = .ok (.iconst 3, 1) := by decide +kernel
theorem dX7_wordHere_95 : decode cX7_wordHere 95 = .ok (.ireturn, 1) := by decide +kernel
theorem dX7_wordHere_96 : decode cX7_wordHere 96 = .ok (.iload_n 1, 1) := by decide +kernel
theorem dX7_wordHere_97 : decode cX7_wordHere 97 = .ok (.iconst 4, 1) := by decide +kernel
theorem dX7_wordHere_98 : decode cX7_wordHere 98 = .ok (.if_icmp .eq 7, 3) := by decide +kernel
theorem dX7_wordHere_101 : decode cX7_wordHere 101 = .ok (.iconst (-1), 1) := by decide +kernel
theorem dX7_wordHere_102 : decode cX7_wordHere 102 = .ok (.goto 61, 3) := by decide +kernel
theorem dX7_wordHere_105 : decode cX7_wordHere 105 = .ok (.aload_n 0, 1) := by decide +kernel
theorem dX7_wordHere_106 : decode cX7_wordHere 106 = .ok (.bipush 104, 2) := by decide +kernel
theorem dX7_wordHere_108 : decode cX7_wordHere 108 = .ok (.bipush 105, 2) := by decide +kernel
theorem dX7_wordHere_110 : decode cX7_wordHere 110 = .ok (.bipush 108, 2) := by decide +kernel
theorem dX7_wordHere_112 : decode cX7_wordHere 112 = .ok (.bipush 108, 2) := by decide +kernel
theorem dX7_wordHere_114 : decode cX7_wordHere 114 = .ok (.invokevirtual 126, 3) := by decide +kernel
theorem dX7_wordHere_117 : decode cX7_wordHere 117 = .ok (.ifCond .eq 7, 3) := by decide +kernel
theorem dX7_wordHere_120 : decode cX7_wordHere 120 = .ok (.iconst 0, 1) := by decide +kernel
theorem dX7_wordHere_121 : decode cX7_wordHere 121 = .ok (.goto 42, 3) := by decide +kernel
theorem dX7_wordHere_124 : decode cX7_wordHere 124 = .ok (.aload_n 0, 1) := by decide +kernel
theorem dX7_wordHere_125 : decode cX7_wordHere 125 = .ok (.bipush 100, 2) := by decide +kernel
theorem dX7_wordHere_127 : decode cX7_wordHere 127 = .ok (.bipush 97, 2) := by decide +kernel
theorem dX7_wordHere_129 : decode cX7_wordHere 129 = .ok (.bipush 114, 2) := by decide +kernel
theorem dX7_wordHere_131 : decode cX7_wordHere 131 = .ok (.bipush 107, 2) := by decide +kernel
theorem dX7_wordHere_133 : decode cX7_wordHere 133 = .ok (.invokevirtual 126, 3) := by decide +kernel
theorem dX7_wordHere_136 : decode cX7_wordHere 136 = .ok (.ifCond .eq 7, 3) := by decide +kernel
theorem dX7_wordHere_139 : decode cX7_wordHere 139 = .ok (.iconst 1, 1) := by decide +kernel
theorem dX7_wordHere_140 : decode cX7_wordHere 140 = .ok (.goto 23, 3) := by decide +kernel
theorem dX7_wordHere_143 : decode cX7_wordHere 143 = .ok (.aload_n 0, 1) := by decide +kernel
theorem dX7_wordHere_144 : decode cX7_wordHere 144 = .ok (.bipush 115, 2) := by decide +kernel
theorem dX7_wordHere_146 : decode cX7_wordHere 146 = .ok (.bipush 101, 2) := by decide +kernel
theorem dX7_wordHere_148 : decode cX7_wordHere 148 = .ok (.bipush 97, 2) := by decide +kernel
theorem dX7_wordHere_150 : decode cX7_wordHere 150 = .ok (.bipush 116, 2) := by decide +kernel
theorem dX7_wordHere_152 : decode cX7_wordHere 152 = .ok (.invokevirtual 126, 3) := by decide +kernel
theorem dX7_wordHere_155 : decode cX7_wordHere 155 = .ok (.ifCond .eq 7, 3) := by decide +kernel
theorem dX7_wordHere_158 : decode cX7_wordHere 158 = .ok (.iconst 4, 1) := by decide +kernel
theorem dX7_wordHere_159 : decode cX7_wordHere 159 = .ok (.goto 4, 3) := by decide +kernel
theorem dX7_wordHere_162 : decode cX7_wordHere 162 = .ok (.iconst (-1), 1) := by decide +kernel
theorem dX7_wordHere_163 : decode cX7_wordHere 163 = .ok (.ireturn, 1) := by decide +kernel
theorem dX7_number_0 : decode cX7_number 0 = .ok (.aload_n 0, 1) := by decide +kernel
theorem dX7_number_1 : decode cX7_number 1 = .ok (.invokevirtual 130, 3) := by decide +kernel
theorem dX7_number_4 : decode cX7_number 4 = .ok (.iconst 0, 1) := by decide +kernel
theorem dX7_number_5 : decode cX7_number 5 = .ok (.istore_n 3, 1) := by decide +kernel
theorem dX7_number_6 : decode cX7_number 6 = .ok (.iconst 0, 1) := by decide +kernel
theorem dX7_number_7 : decode cX7_number 7 = .ok (.istore 4, 2) := by decide +kernel
theorem dX7_number_9 : decode cX7_number 9 = .ok (.aload_n 0, 1) := by decide +kernel
theorem dX7_number_10 : decode cX7_number 10 = .ok (.getfield 110, 3) := by decide +kernel
theorem dX7_number_13 : decode cX7_number 13 = .ok (.iload_n 3, 1) := by decide +kernel
theorem dX7_number_14 : decode cX7_number 14 = .ok (.iadd, 1) := by decide +kernel
theorem dX7_number_15 : decode cX7_number 15 = .ok (.aload_n 0, 1) := by decide +kernel
theorem dX7_number_16 : decode cX7_number 16 = .ok (.getfield 107, 3) := by decide +kernel
theorem dX7_number_19 : decode cX7_number 19 = .ok (.if_icmp .ge 58, 3) := by decide +kernel
theorem dX7_number_22 : decode cX7_number 22 = .ok (.aload_n 0, 1) := by decide +kernel
theorem dX7_number_23 : decode cX7_number 23 = .ok (.getfield 47, 3) := by decide +kernel
theorem dX7_number_26 : decode cX7_number 26 = .ok (.aload_n 0, 1) := by decide +kernel
theorem dX7_number_27 : decode cX7_number 27 = .ok (.getfield 110, 3) := by decide +kernel
theorem dX7_number_30 : decode cX7_number 30 = .ok (.iload_n 3, 1) := by decide +kernel
theorem dX7_number_31 : decode cX7_number 31 = .ok (.iadd, 1) := by decide +kernel
theorem dX7_number_32 : decode cX7_number 32 = .ok (.iaload, 1) := by decide +kernel
theorem dX7_number_33 : decode cX7_number 33 = .ok (.invokestatic 133, 3) := by decide +kernel
theorem dX7_number_36 : decode cX7_number 36 = .ok (.ifCond .eq 41, 3) := by decide +kernel
theorem dX7_number_39 : decode cX7_number 39 = .ok (.iload_n 3, 1) := by decide +kernel
theorem dX7_number_40 : decode cX7_number 40 = .ok (.iconst 2, 1) := by decide +kernel
theorem dX7_number_41 : decode cX7_number 41 = .ok (.if_icmp .ge 26, 3) := by decide +kernel
theorem dX7_number_44 : decode cX7_number 44 = .ok (.bipush 10, 2) := by decide +kernel
theorem dX7_number_46 : decode cX7_number 46 = .ok (.iload 4, 2) := by decide +kernel
theorem dX7_number_48 : decode cX7_number 48 = .ok (.imul, 1) := by decide +kernel
theorem dX7_number_49 : decode cX7_number 49 = .ok (.aload_n 0, 1) := by decide +kernel
theorem dX7_number_50 : decode cX7_number 50 = .ok (.getfield 47, 3) := by decide +kernel
theorem dX7_number_53 : decode cX7_number 53 = .ok (.aload_n 0, 1) := by decide +kernel
theorem dX7_number_54 : decode cX7_number 54 = .ok (.getfield 110, 3) := by decide +kernel
theorem dX7_number_57 : decode cX7_number 57 = .ok (.iload_n 3, 1) := by decide +kernel
theorem dX7_number_58 : decode cX7_number 58 = .ok (.iadd, 1) := by decide +kernel
theorem dX7_number_59 : decode cX7_number 59 = .ok (.iaload, 1) := by decide +kernel
theorem dX7_number_60 : decode cX7_number 60 = .ok (.iadd, 1) := by decide +kernel
theorem dX7_number_61 : decode cX7_number 61 = .ok (.bipush 48, 2) := by decide +kernel
theorem dX7_number_63 : decode cX7_number 63 = .ok (.isub, 1) := by decide +kernel
theorem dX7_number_64 : decode cX7_number 64 = .ok (.goto 5, 3) := by decide +kernel
theorem dX7_number_67 : decode cX7_number 67 = .ok (.iload 4, 2) := by decide +kernel
theorem dX7_number_69 : decode cX7_number 69 = .ok (.istore 4, 2) := by decide +kernel
theorem dX7_number_71 : decode cX7_number 71 = .ok (.iinc 3 1, 3) := by decide +kernel
theorem dX7_number_74 : decode cX7_number 74 = .ok (.goto (-65), 3) := by decide +kernel
theorem dX7_number_77 : decode cX7_number 77 = .ok (.iload_n 3, 1) := by decide +kernel
theorem dX7_number_78 : decode cX7_number 78 = .ok (.iconst 1, 1) := by decide +kernel
theorem dX7_number_79 : decode cX7_number 79 = .ok (.iconst 2, 1) := by decide +kernel
theorem dX7_number_80 : decode cX7_number 80 = .ok (.invokestatic 88, 3) := by decide +kernel
theorem dX7_number_83 : decode cX7_number 83 = .ok (.ifCond .eq 13, 3) := by decide +kernel
theorem dX7_number_86 : decode cX7_number 86 = .ok (.iload 4, 2) := by decide +kernel
theorem dX7_number_88 : decode cX7_number 88 = .ok (.iload_n 1, 1) := by decide +kernel
theorem dX7_number_89 : decode cX7_number 89 = .ok (.iload_n 2, 1) := by decide +kernel
theorem dX7_number_90 : decode cX7_number 90 = .ok (.invokestatic 88, 3) := by decide +kernel
theorem dX7_number_93 : decode cX7_number 93 = .ok (.ifCond .ne 5, 3) := by decide +kernel
theorem dX7_number_96 : decode cX7_number 96 = .ok (.iconst 0, 1) := by decide +kernel
theorem dX7_number_97 : decode cX7_number 97 = .ok (.ireturn, 1) := by decide +kernel
theorem dX7_number_98 : decode cX7_number 98 = .ok (.aload_n 0, 1) := by decide +kernel
theorem dX7_number_99 : decode cX7_number 99 = .ok (.iload 4, 2) := by decide +kernel
theorem dX7_number_101 : decode cX7_number 101 = .ok (.putfield 136, 3) := by decide +kernel
theorem dX7_number_104 : decode cX7_number 104 = .ok (.aload_n 0, 1) := by decide +kernel
theorem dX7_number_105 : decode cX7_number 105 = .ok (.dup, 1) := by decide +kernel
theorem dX7_number_106 : decode cX7_number 106 = .ok (.getfield 110, 3) := by decide +kernel
theorem dX7_number_109 : decode cX7_number 109 = .ok (.iload_n 3, 1) := by decide +kernel
theorem dX7_number_110 : decode cX7_number 110 = .ok (.iadd, 1) := by decide +kernel
theorem dX7_number_111 : decode cX7_number 111 = .ok (.putfield 110, 3) := by decide +kernel
theorem dX7_number_114 : decode cX7_number 114 = .ok (.iconst 1, 1) := by decide +kernel
theorem dX7_number_115 : decode cX7_number 115 = .ok (.ireturn, 1) := by decide +kernel
theorem dX7_ends_0 : decode cX7_ends 0 = .ok (.aload_n 0, 1) := by decide +kernel
theorem dX7_ends_1 : decode cX7_ends 1 = .ok (.invokevirtual 130, 3) := by decide +kernel
theorem dX7_ends_4 : decode cX7_ends 4 = .ok (.aload_n 0, 1) := by decide +kernel
theorem dX7_ends_5 : decode cX7_ends 5 = .ok (.invokevirtual 113, 3) := by decide +kernel
theorem dX7_ends_8 : decode cX7_ends 8 = .ok (.bipush 59, 2) := by decide +kernel
theorem dX7_ends_10 : decode cX7_ends 10 = .ok (.if_icmp .eq 5, 3) := by decide +kernel
theorem dX7_ends_13 : decode cX7_ends 13 = .ok (.iconst 0, 1) := by decide +kernel
theorem dX7_ends_14 : decode cX7_ends 14 = .ok (.ireturn, 1) := by decide +kernel
theorem dX7_ends_15 : decode cX7_ends 15 = .ok (.aload_n 0, 1) := by decide +kernel
theorem dX7_ends_16 : decode cX7_ends 16 = .ok (.dup, 1) := by decide +kernel
theorem dX7_ends_17 : decode cX7_ends 17 = .ok (.getfield 110, 3) := by decide +kernel
theorem dX7_ends_20 : decode cX7_ends 20 = .ok (.iconst 1, 1) := by decide +kernel
theorem dX7_ends_21 : decode cX7_ends 21 = .ok (.iadd, 1) := by decide +kernel
theorem dX7_ends_22 : decode cX7_ends 22 = .ok (.putfield 110, 3) := by decide +kernel
theorem dX7_ends_25 : decode cX7_ends 25 = .ok (.iconst 1, 1) := by decide +kernel
theorem dX7_ends_26 : decode cX7_ends 26 = .ok (.ireturn, 1) := by decide +kernel
theorem dX7_readsDark_0 : decode cX7_readsDark 0 = .ok (.aload_n 0, 1) := by decide +kernel
theorem dX7_readsDark_1 : decode cX7_readsDark 1 = .ok (.iconst 0, 1) := by decide +kernel
theorem dX7_readsDark_2 : decode cX7_readsDark 2 = .ok (.bipush 24, 2) := by decide +kernel
theorem dX7_readsDark_4 : decode cX7_readsDark 4 = .ok (.invokevirtual 139, 3) := by decide +kernel
theorem dX7_readsDark_7 : decode cX7_readsDark 7 = .ok (.ifCond .ne 5, 3) := by decide +kernel
theorem dX7_readsDark_10 : decode cX7_readsDark 10 = .ok (.iconst 0, 1) := by decide +kernel
theorem dX7_readsDark_11 : decode cX7_readsDark 11 = .ok (.ireturn, 1) := by decide +kernel
theorem dX7_readsDark_12 : decode cX7_readsDark 12 = .ok (.aload_n 0, 1) := by decide +kernel
theorem dX7_readsDark_13 : decode cX7_readsDark 13 = .ok (.bipush 10, 2) := by decide +kernel
theorem dX7_readsDark_15 : decode cX7_readsDark 15 = .ok (.aload_n 0, 1) := by decide +kernel
theorem dX7_readsDark_16 : decode cX7_readsDark 16 = .ok (.getfield 136, 3) := by decide +kernel
theorem dX7_readsDark_19 : decode cX7_readsDark 19 = .ok (.imul, 1) := by decide +kernel
theorem dX7_readsDark_20 : decode cX7_readsDark 20 = .ok (.putfield 143, 3) := by decide +kernel
theorem dX7_readsDark_23 : decode cX7_readsDark 23 = .ok (.aload_n 0, 1) := by decide +kernel
theorem dX7_readsDark_24 : decode cX7_readsDark 24 = .ok (.invokevirtual 146, 3) := by decide +kernel
theorem dX7_readsDark_27 : decode cX7_readsDark 27 = .ok (.ireturn, 1) := by decide +kernel
theorem dX7_readsHeights_0 : decode cX7_readsHeights 0 = .ok (.iconst 0, 1) := by decide +kernel
theorem dX7_readsHeights_1 : decode cX7_readsHeights 1 = .ok (.istore_n 1, 1) := by decide +kernel
theorem dX7_readsHeights_2 : decode cX7_readsHeights 2 = .ok (.iload_n 1, 1) := by decide +kernel
theorem dX7_readsHeights_3 : decode cX7_readsHeights 3 = .ok (.bipush 8, 2) := by decide +kernel
theorem dX7_readsHeights_5 : decode cX7_readsHeights 5 = .ok (.if_icmp .ge 31, 3) := by decide +kernel
theorem dX7_readsHeights_8 : decode cX7_readsHeights 8 = .ok (.aload_n 0, 1) := by decide +kernel
theorem dX7_readsHeights_9 : decode cX7_readsHeights 9 = .ok (.iconst 0, 1) := by decide +kernel
theorem dX7_readsHeights_10 : decode cX7_readsHeights 10 = .ok (.bipush 9, 2) := by decide +kernel
theorem dX7_readsHeights_12 : decode cX7_readsHeights 12 = .ok (.invokevirtual 139, 3) := by decide +kernel
theorem dX7_readsHeights_15 : decode cX7_readsHeights 15 = .ok (.ifCond .ne 5, 3) := by decide +kernel
theorem dX7_readsHeights_18 : decode cX7_readsHeights 18 = .ok (.iconst 0, 1) := by decide +kernel
theorem dX7_readsHeights_19 : decode cX7_readsHeights 19 = .ok (.ireturn, 1) := by decide +kernel
theorem dX7_readsHeights_20 : decode cX7_readsHeights 20 = .ok (.aload_n 0, 1) := by decide +kernel
theorem dX7_readsHeights_21 : decode cX7_readsHeights 21 = .ok (.getfield 53, 3) := by decide +kernel
theorem dX7_readsHeights_24 : decode cX7_readsHeights 24 = .ok (.iload_n 1, 1) := by decide +kernel
theorem dX7_readsHeights_25 : decode cX7_readsHeights 25 = .ok (.aload_n 0, 1) := by decide +kernel
theorem dX7_readsHeights_26 : decode cX7_readsHeights 26 = .ok (.getfield 136, 3) := by decide +kernel
theorem dX7_readsHeights_29 : decode cX7_readsHeights 29 = .ok (.iastore, 1) := by decide +kernel
theorem dX7_readsHeights_30 : decode cX7_readsHeights 30 = .ok (.iinc 1 1, 3) := by decide +kernel
theorem dX7_readsHeights_33 : decode cX7_readsHeights 33 = .ok (.goto (-31), 3) := by decide +kernel
theorem dX7_readsHeights_36 : decode cX7_readsHeights 36 = .ok (.aload_n 0, 1) := by decide +kernel
theorem dX7_readsHeights_37 : decode cX7_readsHeights 37 = .ok (.invokevirtual 146, 3) := by decide +kernel
theorem dX7_readsHeights_40 : decode cX7_readsHeights 40 = .ok (.ireturn, 1) := by decide +kernel
theorem dX7_readsOne_0 : decode cX7_readsOne 0 = .ok (.aload_n 0, 1) := by decide +kernel
theorem dX7_readsOne_1 : decode cX7_readsOne 1 = .ok (.iconst 0, 1) := by decide +kernel
theorem dX7_readsOne_2 : decode cX7_readsOne 2 = .ok (.iconst 5, 1) := by decide +kernel
theorem dX7_readsOne_3 : decode cX7_readsOne 3 = .ok (.invokevirtual 139, 3) := by decide +kernel
theorem dX7_readsOne_6 : decode cX7_readsOne 6 = .ok (.ifCond .ne 5, 3) := by decide +kernel
theorem dX7_readsOne_9 : decode cX7_readsOne 9 = .ok (.iconst 0, 1) := by decide +kernel
theorem dX7_readsOne_10 : decode cX7_readsOne 10 = .ok (.ireturn, 1) := by decide +kernel
theorem dX7_readsOne_11 : decode cX7_readsOne 11 = .ok (.aload_n 0, 1) := by decide +kernel
theorem dX7_readsOne_12 : decode cX7_readsOne 12 = .ok (.getfield 50, 3) := by decide +kernel
theorem dX7_readsOne_15 : decode cX7_readsOne 15 = .ok (.iconst 3, 1) := by decide +kernel
theorem dX7_readsOne_16 : decode cX7_readsOne 16 = .ok (.aload_n 0, 1) := by decide +kernel
theorem dX7_readsOne_17 : decode cX7_readsOne 17 = .ok (.getfield 150, 3) := by decide +kernel
theorem dX7_readsOne_20 : decode cX7_readsOne 20 = .ok (.imul, 1) := by decide +kernel
theorem dX7_readsOne_21 : decode cX7_readsOne 21 = .ok (.aload_n 0, 1) := by decide +kernel
theorem dX7_readsOne_22 : decode cX7_readsOne 22 = .ok (.getfield 136, 3) := by decide +kernel
theorem dX7_readsOne_25 : decode cX7_readsOne 25 = .ok (.iastore, 1) := by decide +kernel
theorem dX7_readsOne_26 : decode cX7_readsOne 26 = .ok (.aload_n 0, 1) := by decide +kernel
theorem dX7_readsOne_27 : decode cX7_readsOne 27 = .ok (.iconst 0, 1) := by decide +kernel
theorem dX7_readsOne_28 : decode cX7_readsOne 28 = .ok (.bipush 50, 2) := by decide +kernel
theorem dX7_readsOne_30 : decode cX7_readsOne 30 = .ok (.invokevirtual 139, 3) := by decide +kernel
theorem dX7_readsOne_33 : decode cX7_readsOne 33 = .ok (.ifCond .ne 5, 3) := by decide +kernel
theorem dX7_readsOne_36 : decode cX7_readsOne 36 = .ok (.iconst 0, 1) := by decide +kernel
theorem dX7_readsOne_37 : decode cX7_readsOne 37 = .ok (.ireturn, 1) := by decide +kernel
theorem dX7_readsOne_38 : decode cX7_readsOne 38 = .ok (.aload_n 0, 1) := by decide +kernel
theorem dX7_readsOne_39 : decode cX7_readsOne 39 = .ok (.getfield 50, 3) := by decide +kernel
theorem dX7_readsOne_42 : decode cX7_readsOne 42 = .ok (.iconst 3, 1) := by decide +kernel
theorem dX7_readsOne_43 : decode cX7_readsOne 43 = .ok (.aload_n 0, 1) := by decide +kernel
theorem dX7_readsOne_44 : decode cX7_readsOne 44 = .ok (.getfield 150, 3) := by decide +kernel
theorem dX7_readsOne_47 : decode cX7_readsOne 47 = .ok (.imul, 1) := by decide +kernel
theorem dX7_readsOne_48 : decode cX7_readsOne 48 = .ok (.iconst 1, 1) := by decide +kernel
theorem dX7_readsOne_49 : decode cX7_readsOne 49 = .ok (.iadd, 1) := by decide +kernel
theorem dX7_readsOne_50 : decode cX7_readsOne 50 = .ok (.bipush 10, 2) := by decide +kernel
theorem dX7_readsOne_52 : decode cX7_readsOne 52 = .ok (.aload_n 0, 1) := by decide +kernel
theorem dX7_readsOne_53 : decode cX7_readsOne 53 = .ok (.getfield 136, 3) := by decide +kernel
theorem dX7_readsOne_56 : decode cX7_readsOne 56 = .ok (.imul, 1) := by decide +kernel
theorem dX7_readsOne_57 : decode cX7_readsOne 57 = .ok (.iastore, 1) := by decide +kernel
theorem dX7_readsOne_58 : decode cX7_readsOne 58 = .ok (.aload_n 0, 1) := by decide +kernel
theorem dX7_readsOne_59 : decode cX7_readsOne 59 = .ok (.getfield 50, 3) := by decide +kernel
theorem dX7_readsOne_62 : decode cX7_readsOne 62 = .ok (.iconst 3, 1) := by decide +kernel
theorem dX7_readsOne_63 : decode cX7_readsOne 63 = .ok (.aload_n 0, 1) := by decide +kernel
theorem dX7_readsOne_64 : decode cX7_readsOne 64 = .ok (.getfield 150, 3) := by decide +kernel
theorem dX7_readsOne_67 : decode cX7_readsOne 67 = .ok (.imul, 1) := by decide +kernel
theorem dX7_readsOne_68 : decode cX7_readsOne 68 = .ok (.iconst 2, 1) := by decide +kernel
theorem dX7_readsOne_69 : decode cX7_readsOne 69 = .ok (.iadd, 1) := by decide +kernel
theorem dX7_readsOne_70 : decode cX7_readsOne 70 = .ok (.iconst (-1), 1) := by decide +kernel
theorem dX7_readsOne_71 : decode cX7_readsOne 71 = .ok (.iastore, 1) := by decide +kernel
theorem dX7_readsOne_72 : decode cX7_readsOne 72 = .ok (.aload_n 0, 1) := by decide +kernel
theorem dX7_readsOne_73 : decode cX7_readsOne 73 = .ok (.dup, 1) := by decide +kernel
theorem dX7_readsOne_74 : decode cX7_readsOne 74 = .ok (.getfield 150, 3) := by decide +kernel
theorem dX7_readsOne_77 : decode cX7_readsOne 77 = .ok (.iconst 1, 1) := by decide +kernel
theorem dX7_readsOne_78 : decode cX7_readsOne 78 = .ok (.iadd, 1) := by decide +kernel
theorem dX7_readsOne_79 : decode cX7_readsOne 79 = .ok (.putfield 150, 3) := by decide +kernel
theorem dX7_readsOne_82 : decode cX7_readsOne 82 = .ok (.aload_n 0, 1) := by decide +kernel
theorem dX7_readsOne_83 : decode cX7_readsOne 83 = .ok (.invokevirtual 146, 3) := by decide +kernel
theorem dX7_readsOne_86 : decode cX7_readsOne 86 = .ok (.ireturn, 1) := by decide +kernel
theorem dX7_readsSeat_0 : decode cX7_readsSeat 0 = .ok (.aload_n 0, 1) := by decide +kernel
theorem dX7_readsSeat_1 : decode cX7_readsSeat 1 = .ok (.invokevirtual 130, 3) := by decide +kernel
theorem dX7_readsSeat_4 : decode cX7_readsSeat 4 = .ok (.aload_n 0, 1) := by decide +kernel
theorem dX7_readsSeat_5 : decode cX7_readsSeat 5 = .ok (.getfield 110, 3) := by decide +kernel
theorem dX7_readsSeat_8 : decode cX7_readsSeat 8 = .ok (.istore_n 1, 1) := by decide +kernel
theorem dX7_readsSeat_9 : decode cX7_readsSeat 9 = .ok (.aload_n 0, 1) := by decide +kernel
theorem dX7_readsSeat_10 : decode cX7_readsSeat 10 = .ok (.iconst 0, 1) := by decide +kernel
theorem dX7_readsSeat_11 : decode cX7_readsSeat 11 = .ok (.aload_n 0, 1) := by decide +kernel
theorem dX7_readsSeat_12 : decode cX7_readsSeat 12 = .ok (.getfield 150, 3) := by decide +kernel
theorem dX7_readsSeat_15 : decode cX7_readsSeat 15 = .ok (.iconst 1, 1) := by decide +kernel
theorem dX7_readsSeat_16 : decode cX7_readsSeat 16 = .ok (.isub, 1) := by decide +kernel
theorem dX7_readsSeat_17 : decode cX7_readsSeat 17 = .ok (.invokevirtual 139, 3) := by decide +kernel
theorem dX7_readsSeat_20 : decode cX7_readsSeat 20 = .ok (.ifCond .ne 5, 3) := by decide +kernel
theorem dX7_readsSeat_23 : decode cX7_readsSeat 23 = .ok (.iconst 0, 1) := by decide +kernel
theorem dX7_readsSeat_24 : decode cX7_readsSeat 24 = .ok (.ireturn, 1) := by decide +kernel
theorem dX7_readsSeat_25 : decode cX7_readsSeat 25 = .ok (.aload_n 0, 1) := by decide +kernel
theorem dX7_readsSeat_26 : decode cX7_readsSeat 26 = .ok (.getfield 136, 3) := by decide +kernel
theorem dX7_readsSeat_29 : decode cX7_readsSeat 29 = .ok (.istore_n 2, 1) := by decide +kernel
theorem dX7_readsSeat_30 : decode cX7_readsSeat 30 = .ok (.aload_n 0, 1) := by decide +kernel
theorem dX7_readsSeat_31 : decode cX7_readsSeat 31 = .ok (.getfield 50, 3) := by decide +kernel
theorem dX7_readsSeat_34 : decode cX7_readsSeat 34 = .ok (.iconst 3, 1) := by decide +kernel
theorem dX7_readsSeat_35 : decode cX7_readsSeat 35 = .ok (.iload_n 2, 1) := by decide +kernel
theorem dX7_readsSeat_36 : decode cX7_readsSeat 36 = .ok (.imul, 1) := by decide +kernel
theorem dX7_readsSeat_37 : decode cX7_readsSeat 37 = .ok (.iconst 2, 1) := by decide +kernel
theorem dX7_readsSeat_38 : decode cX7_readsSeat 38 = .ok (.iadd, 1) := by decide +kernel
theorem dX7_readsSeat_39 : decode cX7_readsSeat 39 = .ok (.iaload, 1) := by decide +kernel
theorem dX7_readsSeat_40 : decode cX7_readsSeat 40 = .ok (.iconst (-1), 1) := by decide +kernel
theorem dX7_readsSeat_41 : decode cX7_readsSeat 41 = .ok (.if_icmp .eq 10, 3) := by decide +kernel
theorem dX7_readsSeat_44 : decode cX7_readsSeat 44 = .ok (.aload_n 0, 1) := by decide +kernel
theorem dX7_readsSeat_45 : decode cX7_readsSeat 45 = .ok (.iload_n 1, 1) := by decide +kernel
theorem dX7_readsSeat_46 : decode cX7_readsSeat 46 = .ok (.putfield 110, 3) := by decide +kernel
theorem dX7_readsSeat_49 : decode cX7_readsSeat 49 = .ok (.iconst 0, 1) := by decide +kernel
theorem dX7_readsSeat_50 : decode cX7_readsSeat 50 = .ok (.ireturn, 1) := by decide +kernel
theorem dX7_readsSeat_51 : decode cX7_readsSeat 51 = .ok (.aload_n 0, 1) := by decide +kernel
theorem dX7_readsSeat_52 : decode cX7_readsSeat 52 = .ok (.invokevirtual 130, 3) := by decide +kernel
theorem dX7_readsSeat_55 : decode cX7_readsSeat 55 = .ok (.aload_n 0, 1) := by decide +kernel
theorem dX7_readsSeat_56 : decode cX7_readsSeat 56 = .ok (.getfield 110, 3) := by decide +kernel
theorem dX7_readsSeat_59 : decode cX7_readsSeat 59 = .ok (.istore_n 1, 1) := by decide +kernel
theorem dX7_readsSeat_60 : decode cX7_readsSeat 60 = .ok (.aload_n 0, 1) := by decide +kernel
theorem dX7_readsSeat_61 : decode cX7_readsSeat 61 = .ok (.iconst 0, 1) := by decide +kernel
theorem dX7_readsSeat_62 : decode cX7_readsSeat 62 = .ok (.bipush 7, 2) := by decide +kernel
theorem dX7_readsSeat_64 : decode cX7_readsSeat 64 = .ok (.invokevirtual 139, 3) := by decide +kernel
theorem dX7_readsSeat_67 : decode cX7_readsSeat 67 = .ok (.ifCond .ne 5, 3) := by decide +kernel
theorem dX7_readsSeat_70 : decode cX7_readsSeat 70 = .ok (.iconst 0, 1) := by decide +kernel
theorem dX7_readsSeat_71 : decode cX7_readsSeat 71 = .ok (.ireturn, 1) := by decide +kernel
theorem dX7_readsSeat_72 : decode cX7_readsSeat 72 = .ok (.iconst 0, 1) := by decide +kernel
theorem dX7_readsSeat_73 : decode cX7_readsSeat 73 = .ok (.istore_n 3, 1) := by decide +kernel
theorem dX7_readsSeat_74 : decode cX7_readsSeat 74 = .ok (.iload_n 3, 1) := by decide +kernel
theorem dX7_readsSeat_75 : decode cX7_readsSeat 75 = .ok (.aload_n 0, 1) := by decide +kernel
theorem dX7_readsSeat_76 : decode cX7_readsSeat 76 = .ok (.getfield 150, 3) := by decide +kernel
theorem dX7_readsSeat_79 : decode cX7_readsSeat 79 = .ok (.if_icmp .ge 33, 3) := by decide +kernel
theorem dX7_readsSeat_82 : decode cX7_readsSeat 82 = .ok (.aload_n 0, 1) := by decide +kernel
theorem dX7_readsSeat_83 : decode cX7_readsSeat 83 = .ok (.getfield 50, 3) := by decide +kernel
theorem dX7_readsSeat_86 : decode cX7_readsSeat 86 = .ok (.iconst 3, 1) := by decide +kernel
theorem dX7_readsSeat_87 : decode cX7_readsSeat 87 = .ok (.iload_n 3, 1) := by decide +kernel
theorem dX7_readsSeat_88 : decode cX7_readsSeat 88 = .ok (.imul, 1) := by decide +kernel
theorem dX7_readsSeat_89 : decode cX7_readsSeat 89 = .ok (.iconst 2, 1) := by decide +kernel
theorem dX7_readsSeat_90 : decode cX7_readsSeat 90 = .ok (.iadd, 1) := by decide +kernel
theorem dX7_readsSeat_91 : decode cX7_readsSeat 91 = .ok (.iaload, 1) := by decide +kernel
theorem dX7_readsSeat_92 : decode cX7_readsSeat 92 = .ok (.aload_n 0, 1) := by decide +kernel
theorem dX7_readsSeat_93 : decode cX7_readsSeat 93 = .ok (.getfield 136, 3) := by decide +kernel
theorem dX7_readsSeat_96 : decode cX7_readsSeat 96 = .ok (.if_icmp .ne 10, 3) := by decide +kernel
theorem dX7_readsSeat_99 : decode cX7_readsSeat 99 = .ok (.aload_n 0, 1) := by decide +kernel
theorem dX7_readsSeat_100 : decode cX7_readsSeat 100 = .ok (.iload_n 1, 1) := by decide +kernel
theorem dX7_readsSeat_101 : decode cX7_readsSeat 101 = .ok (.putfield 110, 3) := by decide +kernel
theorem dX7_readsSeat_104 : decode cX7_readsSeat 104 = .ok (.iconst 0, 1) := by decide +kernel
theorem dX7_readsSeat_105 : decode cX7_readsSeat 105 = .ok (.ireturn, 1) := by decide +kernel
theorem dX7_readsSeat_106 : decode cX7_readsSeat 106 = .ok (.iinc 3 1, 3) := by decide +kernel
theorem dX7_readsSeat_109 : decode cX7_readsSeat 109 = .ok (.goto (-35), 3) := by decide +kernel
theorem dX7_readsSeat_112 : decode cX7_readsSeat 112 = .ok (.aload_n 0, 1) := by decide +kernel
theorem dX7_readsSeat_113 : decode cX7_readsSeat 113 = .ok (.getfield 50, 3) := by decide +kernel
theorem dX7_readsSeat_116 : decode cX7_readsSeat 116 = .ok (.iconst 3, 1) := by decide +kernel
theorem dX7_readsSeat_117 : decode cX7_readsSeat 117 = .ok (.iload_n 2, 1) := by decide +kernel
theorem dX7_readsSeat_118 : decode cX7_readsSeat 118 = .ok (.imul, 1) := by decide +kernel
theorem dX7_readsSeat_119 : decode cX7_readsSeat 119 = .ok (.iconst 2, 1) := by decide +kernel
theorem dX7_readsSeat_120 : decode cX7_readsSeat 120 = .ok (.iadd, 1) := by decide +kernel
theorem dX7_readsSeat_121 : decode cX7_readsSeat 121 = .ok (.aload_n 0, 1) := by decide +kernel
theorem dX7_readsSeat_122 : decode cX7_readsSeat 122 = .ok (.getfield 136, 3) := by decide +kernel
theorem dX7_readsSeat_125 : decode cX7_readsSeat 125 = .ok (.iastore, 1) := by decide +kernel
theorem dX7_readsSeat_126 : decode cX7_readsSeat 126 = .ok (.aload_n 0, 1) := by decide +kernel
theorem dX7_readsSeat_127 : decode cX7_readsSeat 127 = .ok (.invokevirtual 146, 3) := by decide +kernel
theorem dX7_readsSeat_130 : decode cX7_readsSeat 130 = .ok (.ireturn, 1) := by decide +kernel
theorem dX7_readsItem_0 : decode cX7_readsItem 0 = .ok (.aload_n 0, 1) := by decide +kernel
theorem dX7_readsItem_1 : decode cX7_readsItem 1 = .ok (.invokevirtual 153, 3) := by decide +kernel
theorem dX7_readsItem_4 : decode cX7_readsItem 4 = .ok (.istore_n 1, 1) := by decide +kernel
theorem dX7_readsItem_5 : decode cX7_readsItem 5 = .ok (.iload_n 1, 1) := by decide +kernel
theorem dX7_readsItem_6 : decode cX7_readsItem 6 = .ok (.iconst 1, 1) := by decide +kernel
theorem dX7_readsItem_7 : decode cX7_readsItem 7 = .ok (.if_icmp .lt 16, 3) := by decide +kernel
theorem dX7_readsItem_10 : decode cX7_readsItem 10 = .ok (.iload_n 1, 1) := by decide +kernel
theorem dX7_readsItem_11 : decode cX7_readsItem 11 = .ok (.iconst 3, 1) := by decide +kernel
theorem dX7_readsItem_12 : decode cX7_readsItem 12 = .ok (.if_icmp .ne 13, 3) := by decide +kernel
theorem dX7_readsItem_15 : decode cX7_readsItem 15 = .ok (.aload_n 0, 1) := by decide +kernel
theorem dX7_readsItem_16 : decode cX7_readsItem 16 = .ok (.getfield 150, 3) := by decide +kernel
theorem dX7_readsItem_19 : decode cX7_readsItem 19 = .ok (.iconst 5, 1) := by decide +kernel
theorem dX7_readsItem_20 : decode cX7_readsItem 20 = .ok (.if_icmp .ne 5, 3) := by decide +kernel
theorem dX7_readsItem_23 : decode cX7_readsItem 23 = .ok (.iconst 0, 1) := by decide +kernel
theorem dX7_readsItem_24 : decode cX7_readsItem 24 = .ok (.ireturn, 1) := by decide +kernel
theorem dX7_readsItem_25 : decode cX7_readsItem 25 = .ok (.aload_n 0, 1) := by decide +kernel
theorem dX7_readsItem_26 : decode cX7_readsItem 26 = .ok (.dup, 1) := by decide +kernel
theorem dX7_readsItem_27 : decode cX7_readsItem 27 = .ok (.getfield 110, 3) := by decide +kernel
theorem dX7_readsItem_30 : decode cX7_readsItem 30 = .ok (.iload_n 1, 1) := by decide +kernel
theorem dX7_readsItem_31 : decode cX7_readsItem 31 = .ok (.iconst 2, 1) := by decide +kernel
theorem dX7_readsItem_32 : decode cX7_readsItem 32 = .ok (.if_icmp .ne 8, 3) := by decide +kernel
theorem dX7_readsItem_35 : decode cX7_readsItem 35 = .ok (.bipush 7, 2) := by decide +kernel
theorem dX7_readsItem_37 : decode cX7_readsItem 37 = .ok (.goto 13, 3) := by decide +kernel
theorem dX7_readsItem_40 : decode cX7_readsItem 40 = .ok (.iload_n 1, 1) := by decide +kernel
theorem dX7_readsItem_41 : decode cX7_readsItem 41 = .ok (.iconst 3, 1) := by decide +kernel
theorem dX7_readsItem_42 : decode cX7_readsItem 42 = .ok (.if_icmp .ne 7, 3) := by decide +kernel
theorem dX7_readsItem_45 : decode cX7_readsItem 45 = .ok (.iconst 3, 1) := by decide +kernel
theorem dX7_readsItem_46 : decode cX7_readsItem 46 = .ok (.goto 4, 3) := by decide +kernel
theorem dX7_readsItem_49 : decode cX7_readsItem 49 = .ok (.iconst 4, 1) := by decide +kernel
theorem dX7_readsItem_50 : decode cX7_readsItem 50 = .ok (.iadd, 1) := by decide +kernel
theorem dX7_readsItem_51 : decode cX7_readsItem 51 = .ok (.putfield 110, 3) := by decide +kernel
theorem dX7_readsItem_54 : decode cX7_readsItem 54 = .ok (.iload_n 1, 1) := by decide +kernel
theorem dX7_readsItem_55 : decode cX7_readsItem 55 = .ok (.iconst 1, 1) := by decide +kernel
theorem dX7_readsItem_56 : decode cX7_readsItem 56 = .ok (.if_icmp .ne 10, 3) := by decide +kernel
theorem dX7_readsItem_59 : decode cX7_readsItem 59 = .ok (.aload_n 0, 1) := by decide +kernel
theorem dX7_readsItem_60 : decode cX7_readsItem 60 = .ok (.invokevirtual 156, 3) := by decide +kernel
theorem dX7_readsItem_63 : decode cX7_readsItem 63 = .ok (.goto 31, 3) := by decide +kernel
theorem dX7_readsItem_66 : decode cX7_readsItem 66 = .ok (.iload_n 1, 1) := by decide +kernel
theorem dX7_readsItem_67 : decode cX7_readsItem 67 = .ok (.iconst 2, 1) := by decide +kernel
theorem dX7_readsItem_68 : decode cX7_readsItem 68 = .ok (.if_icmp .ne 10, 3) := by decide +kernel
theorem dX7_readsItem_71 : decode cX7_readsItem 71 = .ok (.aload_n 0, 1) := by decide +kernel
theorem dX7_readsItem_72 : decode cX7_readsItem 72 = .ok (.invokevirtual 159, 3) := by decide +kernel
theorem dX7_readsItem_75 : decode cX7_readsItem 75 = .ok (.goto 19, 3) := by decide +kernel
theorem dX7_readsItem_78 : decode cX7_readsItem 78 = .ok (.iload_n 1, 1) := by decide +kernel
theorem dX7_readsItem_79 : decode cX7_readsItem 79 = .ok (.iconst 3, 1) := by decide +kernel
theorem dX7_readsItem_80 : decode cX7_readsItem 80 = .ok (.if_icmp .ne 10, 3) := by decide +kernel
theorem dX7_readsItem_83 : decode cX7_readsItem 83 = .ok (.aload_n 0, 1) := by decide +kernel
theorem dX7_readsItem_84 : decode cX7_readsItem 84 = .ok (.invokevirtual 162, 3) := by decide +kernel
theorem dX7_readsItem_87 : decode cX7_readsItem 87 = .ok (.goto 7, 3) := by decide +kernel
theorem dX7_readsItem_90 : decode cX7_readsItem 90 = .ok (.aload_n 0, 1) := by decide +kernel
theorem dX7_readsItem_91 : decode cX7_readsItem 91 = .ok (.invokevirtual 165, 3) := by decide +kernel
theorem dX7_readsItem_94 : decode cX7_readsItem 94 = .ok (.ireturn, 1) := by decide +kernel
theorem dX7_readsFirst_0 : decode cX7_readsFirst 0 = .ok (.aload_n 0, 1) := by decide +kernel
theorem dX7_readsFirst_1 : decode cX7_readsFirst 1 = .ok (.invokevirtual 130, 3) := by decide +kernel
theorem dX7_readsFirst_4 : decode cX7_readsFirst 4 = .ok (.aload_n 0, 1) := by decide +kernel
theorem dX7_readsFirst_5 : decode cX7_readsFirst 5 = .ok (.invokevirtual 153, 3) := by decide +kernel
theorem dX7_readsFirst_8 : decode cX7_readsFirst 8 = .ok (.ifCond .eq 5, 3) := by decide +kernel
theorem dX7_readsFirst_11 : decode cX7_readsFirst 11 = .ok (.iconst 0, 1) := by decide +kernel
theorem dX7_readsFirst_12 : decode cX7_readsFirst 12 = .ok (.ireturn, 1) := by decide +kernel
theorem dX7_readsFirst_13 : decode cX7_readsFirst 13 = .ok (.aload_n 0, 1) := by decide +kernel
theorem dX7_readsFirst_14 : decode cX7_readsFirst 14 = .ok (.dup, 1) := by decide +kernel
theorem dX7_readsFirst_15 : decode cX7_readsFirst 15 = .ok (.getfield 110, 3) := by decide +kernel
theorem dX7_readsFirst_18 : decode cX7_readsFirst 18 = .ok (.iconst 4, 1) := by decide +kernel
theorem dX7_readsFirst_19 : decode cX7_readsFirst 19 = .ok (.iadd, 1) := by decide +kernel
theorem dX7_readsFirst_20 : decode cX7_readsFirst 20 = .ok (.putfield 110, 3) := by decide +kernel
theorem dX7_readsFirst_23 : decode cX7_readsFirst 23 = .ok (.aload_n 0, 1) := by decide +kernel
theorem dX7_readsFirst_24 : decode cX7_readsFirst 24 = .ok (.iconst 0, 1) := by decide +kernel
theorem dX7_readsFirst_25 : decode cX7_readsFirst 25 = .ok (.bipush 7, 2) := by decide +kernel
theorem dX7_readsFirst_27 : decode cX7_readsFirst 27 = .ok (.invokevirtual 139, 3) := by decide +kernel
theorem dX7_readsFirst_30 : decode cX7_readsFirst 30 = .ok (.ifCond .ne 5, 3) := by decide +kernel
theorem dX7_readsFirst_33 : decode cX7_readsFirst 33 = .ok (.iconst 0, 1) := by decide +kernel
theorem dX7_readsFirst_34 : decode cX7_readsFirst 34 = .ok (.ireturn, 1) := by decide +kernel
theorem dX7_readsFirst_35 : decode cX7_readsFirst 35 = .ok (.aload_n 0, 1) := by decide +kernel
theorem dX7_readsFirst_36 : decode cX7_readsFirst 36 = .ok (.aload_n 0, 1) := by decide +kernel
theorem dX7_readsFirst_37 : decode cX7_readsFirst 37 = .ok (.getfield 136, 3) := by decide +kernel
theorem dX7_readsFirst_40 : decode cX7_readsFirst 40 = .ok (.putfield 168, 3) := by decide +kernel
theorem dX7_readsFirst_43 : decode cX7_readsFirst 43 = .ok (.aload_n 0, 1) := by decide +kernel
theorem dX7_readsFirst_44 : decode cX7_readsFirst 44 = .ok (.invokevirtual 146, 3) := by decide +kernel
theorem dX7_readsFirst_47 : decode cX7_readsFirst 47 = .ok (.ireturn, 1) := by decide +kernel
theorem dX7_readsHill_0 : decode cX7_readsHill 0 = .ok (.aload_n 0, 1) := by decide +kernel
theorem dX7_readsHill_1 : decode cX7_readsHill 1 = .ok (.iconst 0, 1) := by decide +kernel
theorem dX7_readsHill_2 : decode cX7_readsHill 2 = .ok (.putfield 110, 3) := by decide +kernel
theorem dX7_readsHill_5 : decode cX7_readsHill 5 = .ok (.aload_n 0, 1) := by decide +kernel
theorem dX7_readsHill_6 : decode cX7_readsHill 6 = .ok (.iconst 0, 1) := by decide +kernel
theorem dX7_readsHill_7 : decode cX7_readsHill 7 = .ok (.putfield 150, 3) := by decide +kernel
theorem dX7_readsHill_10 : decode cX7_readsHill 10 = .ok (.aload_n 0, 1) := by decide +kernel
theorem dX7_readsHill_11 : decode cX7_readsHill 11 = .ok (.sipush 240, 3) := by decide +kernel
theorem dX7_readsHill_14 : decode cX7_readsHill 14 = .ok (.putfield 143, 3) := by decide +kernel
theorem dX7_readsHill_17 : decode cX7_readsHill 17 = .ok (.iconst 0, 1) := by decide +kernel
theorem dX7_readsHill_18 : decode cX7_readsHill 18 = .ok (.istore_n 1, 1) := by decide +kernel
theorem dX7_readsHill_19 : decode cX7_readsHill 19 = .ok (.iload_n 1, 1) := by decide +kernel
theorem dX7_readsHill_20 : decode cX7_readsHill 20 = .ok (.bipush 8, 2) := by decide +kernel
theorem dX7_readsHill_22 : decode cX7_readsHill 22 = .ok (.if_icmp .ge 16, 3) := by decide +kernel
theorem dX7_readsHill_25 : decode cX7_readsHill 25 = .ok (.aload_n 0, 1) := by decide +kernel
theorem dX7_readsHill_26 : decode cX7_readsHill 26 = .ok (.getfield 53, 3) := by decide +kernel
theorem dX7_readsHill_29 : decode cX7_readsHill 29 = .ok (.iload_n 1, 1) := by decide +kernel
theorem dX7_readsHill_30 : decode cX7_readsHill 30 = .ok (.iconst 0, 1) := by decide +kernel
theorem dX7_readsHill_31 : decode cX7_readsHill 31 = .ok (.iastore, 1) := by decide +kernel
theorem dX7_readsHill_32 : decode cX7_readsHill 32 = .ok (.iinc 1 1, 3) := by decide +kernel
theorem dX7_readsHill_35 : decode cX7_readsHill 35 = .ok (.goto (-16), 3) := by decide +kernel
theorem dX7_readsHill_38 : decode cX7_readsHill 38 = .ok (.aload_n 0, 1) := by decide +kernel
theorem dX7_readsHill_39 : decode cX7_readsHill 39 = .ok (.invokevirtual 171, 3) := by decide +kernel
theorem dX7_readsHill_42 : decode cX7_readsHill 42 = .ok (.ifCond .ne 5, 3) := by decide +kernel
theorem dX7_readsHill_45 : decode cX7_readsHill 45 = .ok (.iconst (-1), 1) := by decide +kernel
theorem dX7_readsHill_46 : decode cX7_readsHill 46 = .ok (.ireturn, 1) := by decide +kernel
theorem dX7_readsHill_47 : decode cX7_readsHill 47 = .ok (.iconst 1, 1) := by decide +kernel
theorem dX7_readsHill_48 : decode cX7_readsHill 48 = .ok (.istore_n 1, 1) := by decide +kernel
theorem dX7_readsHill_49 : decode cX7_readsHill 49 = .ok (.aload_n 0, 1) := by decide +kernel
theorem dX7_readsHill_50 : decode cX7_readsHill 50 = .ok (.invokevirtual 130, 3) := by decide +kernel
theorem dX7_readsHill_53 : decode cX7_readsHill 53 = .ok (.aload_n 0, 1) := by decide +kernel
theorem dX7_readsHill_54 : decode cX7_readsHill 54 = .ok (.getfield 110, 3) := by decide +kernel
theorem dX7_readsHill_57 : decode cX7_readsHill 57 = .ok (.aload_n 0, 1) := by decide +kernel
theorem dX7_readsHill_58 : decode cX7_readsHill 58 = .ok (.getfield 107, 3) := by decide +kernel
theorem dX7_readsHill_61 : decode cX7_readsHill 61 = .ok (.if_icmp .ge 22, 3) := by decide +kernel
theorem dX7_readsHill_64 : decode cX7_readsHill 64 = .ok (.aload_n 0, 1) := by decide +kernel
theorem dX7_readsHill_65 : decode cX7_readsHill 65 = .ok (.invokevirtual 174, 3) := by decide +kernel
theorem dX7_readsHill_68 : decode cX7_readsHill 68 = .ok (.ifCond .ne 5, 3) := by decide +kernel
theorem dX7_readsHill_71 : decode cX7_readsHill 71 = .ok (.iconst (-1), 1) := by decide +kernel
theorem dX7_readsHill_72 : decode cX7_readsHill 72 = .ok (.ireturn, 1) := by decide +kernel
theorem dX7_readsHill_73 : decode cX7_readsHill 73 = .ok (.iinc 1 1, 3) := by decide +kernel
theorem dX7_readsHill_76 : decode cX7_readsHill 76 = .ok (.aload_n 0, 1) := by decide +kernel
theorem dX7_readsHill_77 : decode cX7_readsHill 77 = .ok (.invokevirtual 130, 3) := by decide +kernel
theorem dX7_readsHill_80 : decode cX7_readsHill 80 = .ok (.goto (-27), 3) := by decide +kernel
theorem dX7_readsHill_83 : decode cX7_readsHill 83 = .ok (.iload_n 1, 1) := by decide +kernel
theorem dX7_readsHill_84 : decode cX7_readsHill 84 = .ok (.ireturn, 1) := by decide +kernel
theorem dX7_read_0 : decode cX7_read 0 = .ok (.aload_n 0, 1) := by decide +kernel
theorem dX7_read_1 : decode cX7_read 1 = .ok (.invokevirtual 177, 3) := by decide +kernel
theorem dX7_read_4 : decode cX7_read 4 = .ok (.istore_n 1, 1) := by decide +kernel
theorem dX7_read_5 : decode cX7_read 5 = .ok (.iload_n 1, 1) := by decide +kernel
theorem dX7_read_6 : decode cX7_read 6 = .ok (.ifCond .ge 11, 3) := by decide +kernel
theorem dX7_read_9 : decode cX7_read 9 = .ok (.bipush (-10), 2) := by decide +kernel
theorem dX7_read_11 : decode cX7_read 11 = .ok (.aload_n 0, 1) := by decide +kernel
theorem dX7_read_12 : decode cX7_read 12 = .ok (.getfield 110, 3) := by decide +kernel
theorem dX7_read_15 : decode cX7_read 15 = .ok (.isub, 1) := by decide +kernel
theorem dX7_read_16 : decode cX7_read 16 = .ok (.ireturn, 1) := by decide +kernel
theorem dX7_read_17 : decode cX7_read 17 = .ok (.aload_n 0, 1) := by decide +kernel
theorem dX7_read_18 : decode cX7_read 18 = .ok (.aload_n 0, 1) := by decide +kernel
theorem dX7_read_19 : decode cX7_read 19 = .ok (.getfield 168, 3) := by decide +kernel
theorem dX7_read_22 : decode cX7_read 22 = .ok (.aload_n 0, 1) := by decide +kernel
theorem dX7_read_23 : decode cX7_read 23 = .ok (.getfield 143, 3) := by decide +kernel
theorem dX7_read_26 : decode cX7_read 26 = .ok (.invokevirtual 75, 3) := by decide +kernel
theorem dX7_read_29 : decode cX7_read 29 = .ok (.iconst 0, 1) := by decide +kernel
theorem dX7_read_30 : decode cX7_read 30 = .ok (.istore_n 2, 1) := by decide +kernel
theorem dX7_read_31 : decode cX7_read 31 = .ok (.iload_n 2, 1) := by decide +kernel
theorem dX7_read_32 : decode cX7_read 32 = .ok (.bipush 8, 2) := by decide +kernel
theorem dX7_read_34 : decode cX7_read 34 = .ok (.if_icmp .ge 21, 3) := by decide +kernel
theorem dX7_read_37 : decode cX7_read 37 = .ok (.aload_n 0, 1) := by decide +kernel
theorem dX7_read_38 : decode cX7_read 38 = .ok (.getfield 20, 3) := by decide +kernel
theorem dX7_read_41 : decode cX7_read 41 = .ok (.iload_n 2, 1) := by decide +kernel
theorem dX7_read_42 : decode cX7_read 42 = .ok (.aload_n 0, 1) := by decide +kernel
theorem dX7_read_43 : decode cX7_read 43 = .ok (.getfield 53, 3) := by decide +kernel
theorem dX7_read_46 : decode cX7_read 46 = .ok (.iload_n 2, 1) := by decide +kernel
theorem dX7_read_47 : decode cX7_read 47 = .ok (.iaload, 1) := by decide +kernel
theorem dX7_read_48 : decode cX7_read 48 = .ok (.iastore, 1) := by decide +kernel
theorem dX7_read_49 : decode cX7_read 49 = .ok (.iinc 2 1, 3) := by decide +kernel
theorem dX7_read_52 : decode cX7_read 52 = .ok (.goto (-21), 3) := by decide +kernel
theorem dX7_read_55 : decode cX7_read 55 = .ok (.iconst 0, 1) := by decide +kernel
theorem dX7_read_56 : decode cX7_read 56 = .ok (.istore_n 2, 1) := by decide +kernel
theorem dX7_read_57 : decode cX7_read 57 = .ok (.iload_n 2, 1) := by decide +kernel
theorem dX7_read_58 : decode cX7_read 58 = .ok (.aload_n 0, 1) := by decide +kernel
theorem dX7_read_59 : decode cX7_read 59 = .ok (.getfield 150, 3) := by decide +kernel
theorem dX7_read_62 : decode cX7_read 62 = .ok (.if_icmp .ge 48, 3) := by decide +kernel
theorem dX7_read_65 : decode cX7_read 65 = .ok (.aload_n 0, 1) := by decide +kernel
theorem dX7_read_66 : decode cX7_read 66 = .ok (.aload_n 0, 1) := by decide +kernel
theorem dX7_read_67 : decode cX7_read 67 = .ok (.getfield 50, 3) := by decide +kernel
theorem dX7_read_70 : decode cX7_read 70 = .ok (.iconst 3, 1) := by decide +kernel
theorem dX7_read_71 : decode cX7_read 71 = .ok (.iload_n 2, 1) := by decide +kernel
theorem dX7_read_72 : decode cX7_read 72 = .ok (.imul, 1) := by decide +kernel
theorem dX7_read_73 : decode cX7_read 73 = .ok (.iaload, 1) := by decide +kernel
theorem dX7_read_74 : decode cX7_read 74 = .ok (.aload_n 0, 1) := by decide +kernel
theorem dX7_read_75 : decode cX7_read 75 = .ok (.getfield 50, 3) := by decide +kernel
theorem dX7_read_78 : decode cX7_read 78 = .ok (.iconst 3, 1) := by decide +kernel
theorem dX7_read_79 : decode cX7_read 79 = .ok (.iload_n 2, 1) := by decide +kernel
theorem dX7_read_80 : decode cX7_read 80 = .ok (.imul, 1) := by decide +kernel
theorem dX7_read_81 : decode cX7_read 81 = .ok (.iconst 1, 1) := by decide +kernel
theorem dX7_read_82 : decode cX7_read 82 = .ok (.iadd, 1) := by decide +kernel
theorem dX7_read_83 : decode cX7_read 83 = .ok (.iaload, 1) := by decide +kernel
theorem dX7_read_84 : decode cX7_read 84 = .ok (.invokevirtual 103, 3) := by decide +kernel
theorem dX7_read_87 : decode cX7_read 87 = .ok (.pop, 1) := by decide +kernel
theorem dX7_read_88 : decode cX7_read 88 = .ok (.aload_n 0, 1) := by decide +kernel
theorem dX7_read_89 : decode cX7_read 89 = .ok (.getfield 32, 3) := by decide +kernel
theorem dX7_read_92 : decode cX7_read 92 = .ok (.iload_n 2, 1) := by decide +kernel
theorem dX7_read_93 : decode cX7_read 93 = .ok (.aload_n 0, 1) := by decide +kernel
theorem dX7_read_94 : decode cX7_read 94 = .ok (.getfield 50, 3) := by decide +kernel
theorem dX7_read_97 : decode cX7_read 97 = .ok (.iconst 3, 1) := by decide +kernel
theorem dX7_read_98 : decode cX7_read 98 = .ok (.iload_n 2, 1) := by decide +kernel
theorem dX7_read_99 : decode cX7_read 99 = .ok (.imul, 1) := by decide +kernel
theorem dX7_read_100 : decode cX7_read 100 = .ok (.iconst 2, 1) := by decide +kernel
theorem dX7_read_101 : decode cX7_read 101 = .ok (.iadd, 1) := by decide +kernel
theorem dX7_read_102 : decode cX7_read 102 = .ok (.iaload, 1) := by decide +kernel
theorem dX7_read_103 : decode cX7_read 103 = .ok (.iastore, 1) := by decide +kernel
theorem dX7_read_104 : decode cX7_read 104 = .ok (.iinc 2 1, 3) := by decide +kernel
theorem dX7_read_107 : decode cX7_read 107 = .ok (.goto (-50), 3) := by decide +kernel
theorem dX7_read_110 : decode cX7_read 110 = .ok (.iload_n 1, 1) := by decide +kernel
theorem dX7_read_111 : decode cX7_read 111 = .ok (.ireturn, 1) := by decide +kernel
theorem dX7_worthBy_0 : decode cX7_worthBy 0 = .ok (.iload_n 0, 1) := by decide +kernel
theorem dX7_worthBy_1 : decode cX7_worthBy 1 = .ok (.tableswitch 69 2 5 #[31, 35, 50, 63], 31) := by decide +kernel
theorem dX7_worthBy_32 : decode cX7_worthBy 32 = .ok (.iload_n 1, 1) := by decide +kernel
theorem dX7_worthBy_33 : decode cX7_worthBy 33 = .ok (.iconst 2, 1) := by decide +kernel
theorem dX7_worthBy_34 : decode cX7_worthBy 34 = .ok (.idiv, 1) := by decide +kernel
theorem dX7_worthBy_35 : decode cX7_worthBy 35 = .ok (.ireturn, 1) := by decide +kernel
theorem dX7_worthBy_36 : decode cX7_worthBy 36 = .ok (.iload_n 1, 1) := by decide +kernel
theorem dX7_worthBy_37 : decode cX7_worthBy 37 = .ok (.ifCond .ne 7, 3) := by decide +kernel
theorem dX7_worthBy_40 : decode cX7_worthBy 40 = .ok (.iconst 0, 1) := by decide +kernel
theorem dX7_worthBy_41 : decode cX7_worthBy 41 = .ok (.goto 9, 3) := by decide +kernel
theorem dX7_worthBy_44 : decode cX7_worthBy 44 = .ok (.iload_n 1, 1) := by decide +kernel
theorem dX7_worthBy_45 : decode cX7_worthBy 45 = .ok (.bipush 20, 2) := by decide +kernel
theorem dX7_worthBy_47 : decode cX7_worthBy 47 = .ok (.iload_n 2, 1) := by decide +kernel
theorem dX7_worthBy_48 : decode cX7_worthBy 48 = .ok (.imul, 1) := by decide +kernel
theorem dX7_worthBy_49 : decode cX7_worthBy 49 = .ok (.iadd, 1) := by decide +kernel
theorem dX7_worthBy_50 : decode cX7_worthBy 50 = .ok (.ireturn, 1) := by decide +kernel
theorem dX7_worthBy_51 : decode cX7_worthBy 51 = .ok (.iload_n 1, 1) := by decide +kernel
theorem dX7_worthBy_52 : decode cX7_worthBy 52 = .ok (.sipush 200, 3) := by decide +kernel
theorem dX7_worthBy_55 : decode cX7_worthBy 55 = .ok (.if_icmp .ge 7, 3) := by decide +kernel
theorem dX7_worthBy_58 : decode cX7_worthBy 58 = .ok (.iconst 0, 1) := by decide +kernel
theorem dX7_worthBy_59 : decode cX7_worthBy 59 = .ok (.goto 4, 3) := by decide +kernel
theorem dX7_worthBy_62 : decode cX7_worthBy 62 = .ok (.iload_n 1, 1) := by decide +kernel
theorem dX7_worthBy_63 : decode cX7_worthBy 63 = .ok (.ireturn, 1) := by decide +kernel
theorem dX7_worthBy_64 : decode cX7_worthBy 64 = .ok (.iconst 3, 1) := by decide +kernel
theorem dX7_worthBy_65 : decode cX7_worthBy 65 = .ok (.iload_n 1, 1) := by decide +kernel
theorem dX7_worthBy_66 : decode cX7_worthBy 66 = .ok (.iconst 2, 1) := by decide +kernel
theorem dX7_worthBy_67 : decode cX7_worthBy 67 = .ok (.idiv, 1) := by decide +kernel
theorem dX7_worthBy_68 : decode cX7_worthBy 68 = .ok (.imul, 1) := by decide +kernel
theorem dX7_worthBy_69 : decode cX7_worthBy 69 = .ok (.ireturn, 1) := by decide +kernel
theorem dX7_worthBy_70 : decode cX7_worthBy 70 = .ok (.iload_n 1, 1) := by decide +kernel
theorem dX7_worthBy_71 : decode cX7_worthBy 71 = .ok (.ireturn, 1) := by decide +kernel
theorem dX7_headBy_0 : decode cX7_headBy 0 = .ok (.iload_n 0, 1) := by decide +kernel
theorem dX7_headBy_1 : decode cX7_headBy 1 = .ok (.tableswitch 43 1 5 #[35, 43, 37, 39, 41], 35) := by decide +kernel
theorem dX7_headBy_36 : decode cX7_headBy 36 = .ok (.iconst 3, 1) := by decide +kernel
theorem dX7_headBy_37 : decode cX7_headBy 37 = .ok (.ireturn, 1) := by decide +kernel
theorem dX7_headBy_38 : decode cX7_headBy 38 = .ok (.iconst 0, 1) := by decide +kernel
theorem dX7_headBy_39 : decode cX7_headBy 39 = .ok (.ireturn, 1) := by decide +kernel
theorem dX7_headBy_40 : decode cX7_headBy 40 = .ok (.iconst 4, 1) := by decide +kernel
theorem dX7_headBy_41 : decode cX7_headBy 41 = .ok (.ireturn, 1) := by decide +kernel
theorem dX7_headBy_42 : decode cX7_headBy 42 = .ok (.iconst 0, 1) := by decide +kernel
theorem dX7_headBy_43 : decode cX7_headBy 43 = .ok (.ireturn, 1) := by decide +kernel
theorem dX7_headBy_44 : decode cX7_headBy 44 = .ok (.iconst 1, 1) := by decide +kernel
theorem dX7_headBy_45 : decode cX7_headBy 45 = .ok (.ireturn, 1) := by decide +kernel
theorem dX7_darkIn_0 : decode cX7_darkIn 0 = .ok (.iload_n 1, 1) := by decide +kernel
theorem dX7_darkIn_1 : decode cX7_darkIn 1 = .ok (.aload_n 0, 1) := by decide +kernel
theorem dX7_darkIn_2 : decode cX7_darkIn 2 = .ok (.getfield 13, 3) := by decide +kernel
theorem dX7_darkIn_5 : decode cX7_darkIn 5 = .ok (.if_icmp .ge 12, 3) := by decide +kernel
theorem dX7_darkIn_8 : decode cX7_darkIn 8 = .ok (.aload_n 0, 1) := by decide +kernel
theorem dX7_darkIn_9 : decode cX7_darkIn 9 = .ok (.getfield 13, 3) := by decide +kernel
theorem dX7_darkIn_12 : decode cX7_darkIn 12 = .ok (.iload_n 1, 1) := by decide +kernel
theorem dX7_darkIn_13 : decode cX7_darkIn 13 = .ok (.isub, 1) := by decide +kernel
theorem dX7_darkIn_14 : decode cX7_darkIn 14 = .ok (.goto 9, 3) := by decide +kernel
theorem dX7_darkIn_17 : decode cX7_darkIn 17 = .ok (.iload_n 1, 1) := by decide +kernel
theorem dX7_darkIn_18 : decode cX7_darkIn 18 = .ok (.aload_n 0, 1) := by decide +kernel
theorem dX7_darkIn_19 : decode cX7_darkIn 19 = .ok (.getfield 13, 3) := by decide +kernel
theorem dX7_darkIn_22 : decode cX7_darkIn 22 = .ok (.isub, 1) := by decide +kernel
theorem dX7_darkIn_23 : decode cX7_darkIn 23 = .ok (.istore_n 2, 1) := by decide +kernel
theorem dX7_darkIn_24 : decode cX7_darkIn 24 = .ok (.aload_n 0, 1) := by decide +kernel
theorem dX7_darkIn_25 : decode cX7_darkIn 25 = .ok (.getfield 17, 3) := by decide +kernel
theorem dX7_darkIn_28 : decode cX7_darkIn 28 = .ok (.bipush 9, 2) := by decide +kernel
theorem dX7_darkIn_30 : decode cX7_darkIn 30 = .ok (.iload_n 2, 1) := by decide +kernel
theorem dX7_darkIn_31 : decode cX7_darkIn 31 = .ok (.imul, 1) := by decide +kernel
theorem dX7_darkIn_32 : decode cX7_darkIn 32 = .ok (.isub, 1) := by decide +kernel
theorem dX7_darkIn_33 : decode cX7_darkIn 33 = .ok (.istore_n 3, 1) := by decide +kernel
theorem dX7_darkIn_34 : decode cX7_darkIn 34 = .ok (.iload_n 3, 1) := by decide +kernel
theorem dX7_darkIn_35 : decode cX7_darkIn 35 = .ok (.ifCond .ge 7, 3) := by decide +kernel
theorem dX7_darkIn_38 : decode cX7_darkIn 38 = .ok (.iconst 0, 1) := by decide +kernel
theorem dX7_darkIn_39 : decode cX7_darkIn 39 = .ok (.goto 4, 3) := by decide +kernel
theorem dX7_darkIn_42 : decode cX7_darkIn 42 = .ok (.iload_n 3, 1) := by decide +kernel
theorem dX7_darkIn_43 : decode cX7_darkIn 43 = .ok (.ireturn, 1) := by decide +kernel
theorem dX7_who_0 : decode cX7_who 0 = .ok (.iconst 0, 1) := by decide +kernel
theorem dX7_who_1 : decode cX7_who 1 = .ok (.istore_n 2, 1) := by decide +kernel
theorem dX7_who_2 : decode cX7_who 2 = .ok (.iload_n 2, 1) := by decide +kernel
theorem dX7_who_3 : decode cX7_who 3 = .ok (.aload_n 0, 1) := by decide +kernel
theorem dX7_who_4 : decode cX7_who 4 = .ok (.getfield 79, 3) := by decide +kernel
theorem dX7_who_7 : decode cX7_who 7 = .ok (.if_icmp .ge 21, 3) := by decide +kernel
theorem dX7_who_10 : decode cX7_who 10 = .ok (.aload_n 0, 1) := by decide +kernel
theorem dX7_who_11 : decode cX7_who 11 = .ok (.getfield 32, 3) := by decide +kernel
theorem dX7_who_14 : decode cX7_who 14 = .ok (.iload_n 2, 1) := by decide +kernel
theorem dX7_who_15 : decode cX7_who 15 = .ok (.iaload, 1) := by decide +kernel
theorem dX7_who_16 : decode cX7_who 16 = .ok (.iload_n 1, 1) := by decide +kernel
theorem dX7_who_17 : decode cX7_who 17 = .ok (.if_icmp .ne 5, 3) := by decide +kernel
theorem dX7_who_20 : decode cX7_who 20 = .ok (.iload_n 2, 1) := by decide +kernel
theorem dX7_who_21 : decode cX7_who 21 = .ok (.ireturn, 1) := by decide +kernel
theorem dX7_who_22 : decode cX7_who 22 = .ok (.iinc 2 1, 3) := by decide +kernel
theorem dX7_who_25 : decode cX7_who 25 = .ok (.goto (-23), 3) := by decide +kernel
theorem dX7_who_28 : decode cX7_who 28 = .ok (.iconst (-1), 1) := by decide +kernel
theorem dX7_who_29 : decode cX7_who 29 = .ok (.ireturn, 1) := by decide +kernel
theorem dX7_seen_0 : decode cX7_seen 0 = .ok (.aload_n 0, 1) := by decide +kernel
theorem dX7_seen_1 : decode cX7_seen 1 = .ok (.getfield 32, 3) := by decide +kernel
theorem dX7_seen_4 : decode cX7_seen 4 = .ok (.iload_n 1, 1) := by decide +kernel
theorem dX7_seen_5 : decode cX7_seen 5 = .ok (.iaload, 1) := by decide +kernel
theorem dX7_seen_6 : decode cX7_seen 6 = .ok (.istore_n 2, 1) := by decide +kernel
theorem dX7_seen_7 : decode cX7_seen 7 = .ok (.iload_n 2, 1) := by decide +kernel
theorem dX7_seen_8 : decode cX7_seen 8 = .ok (.iconst (-1), 1) := by decide +kernel
theorem dX7_seen_9 : decode cX7_seen 9 = .ok (.if_icmp .ne 5, 3) := by decide +kernel
theorem dX7_seen_12 : decode cX7_seen 12 = .ok (.iconst 0, 1) := by decide +kernel
theorem dX7_seen_13 : decode cX7_seen 13 = .ok (.ireturn, 1) := by decide +kernel
theorem dX7_seen_14 : decode cX7_seen 14 = .ok (.aload_n 0, 1) := by decide +kernel
theorem dX7_seen_15 : decode cX7_seen 15 = .ok (.iload_n 2, 1) := by decide +kernel
theorem dX7_seen_16 : decode cX7_seen 16 = .ok (.invokevirtual 180, 3) := by decide +kernel
theorem dX7_seen_19 : decode cX7_seen 19 = .ok (.istore_n 3, 1) := by decide +kernel
theorem dX7_seen_20 : decode cX7_seen 20 = .ok (.iconst 0, 1) := by decide +kernel
theorem dX7_seen_21 : decode cX7_seen 21 = .ok (.istore 4, 2) := by decide +kernel
theorem dX7_seen_23 : decode cX7_seen 23 = .ok (.iload 4, 2) := by decide +kernel
theorem dX7_seen_25 : decode cX7_seen 25 = .ok (.aload_n 0, 1) := by decide +kernel
theorem dX7_seen_26 : decode cX7_seen 26 = .ok (.getfield 79, 3) := by decide +kernel
theorem dX7_seen_29 : decode cX7_seen 29 = .ok (.if_icmp .ge 87, 3) := by decide +kernel
theorem dX7_seen_32 : decode cX7_seen 32 = .ok (.iload 4, 2) := by decide +kernel
theorem dX7_seen_34 : decode cX7_seen 34 = .ok (.iload_n 1, 1) := by decide +kernel
theorem dX7_seen_35 : decode cX7_seen 35 = .ok (.if_icmp .eq 29, 3) := by decide +kernel
theorem dX7_seen_38 : decode cX7_seen 38 = .ok (.aload_n 0, 1) := by decide +kernel
theorem dX7_seen_39 : decode cX7_seen 39 = .ok (.getfield 32, 3) := by decide +kernel
theorem dX7_seen_42 : decode cX7_seen 42 = .ok (.iload 4, 2) := by decide +kernel
theorem dX7_seen_44 : decode cX7_seen 44 = .ok (.iaload, 1) := by decide +kernel
theorem dX7_seen_45 : decode cX7_seen 45 = .ok (.iconst (-1), 1) := by decide +kernel
theorem dX7_seen_46 : decode cX7_seen 46 = .ok (.if_icmp .eq 18, 3) := by decide +kernel
theorem dX7_seen_49 : decode cX7_seen 49 = .ok (.aload_n 0, 1) := by decide +kernel
theorem dX7_seen_50 : decode cX7_seen 50 = .ok (.getfield 32, 3) := by decide +kernel
theorem dX7_seen_53 : decode cX7_seen 53 = .ok (.iload 4, 2) := by decide +kernel
theorem dX7_seen_55 : decode cX7_seen 55 = .ok (.iaload, 1) := by decide +kernel
theorem dX7_seen_56 : decode cX7_seen 56 = .ok (.iload_n 2, 1) := by decide +kernel
theorem dX7_seen_57 : decode cX7_seen 57 = .ok (.if_icmp .ge 7, 3) := by decide +kernel
theorem dX7_seen_60 : decode cX7_seen 60 = .ok (.iconst 1, 1) := by decide +kernel
theorem dX7_seen_61 : decode cX7_seen 61 = .ok (.goto 4, 3) := by decide +kernel
theorem dX7_seen_64 : decode cX7_seen 64 = .ok (.iconst 0, 1) := by decide +kernel
theorem dX7_seen_65 : decode cX7_seen 65 = .ok (.istore 5, 2) := by decide +kernel
theorem dX7_seen_67 : decode cX7_seen 67 = .ok (.iload 5, 2) := by decide +kernel
theorem dX7_seen_69 : decode cX7_seen 69 = .ok (.ifCond .eq 39, 3) := by decide +kernel
theorem dX7_seen_72 : decode cX7_seen 72 = .ok (.aload_n 0, 1) := by decide +kernel
theorem dX7_seen_73 : decode cX7_seen 73 = .ok (.getfield 20, 3) := by decide +kernel
theorem dX7_seen_76 : decode cX7_seen 76 = .ok (.aload_n 0, 1) := by decide +kernel
theorem dX7_seen_77 : decode cX7_seen 77 = .ok (.getfield 32, 3) := by decide +kernel
theorem dX7_seen_80 : decode cX7_seen 80 = .ok (.iload 4, 2) := by decide +kernel
theorem dX7_seen_82 : decode cX7_seen 82 = .ok (.iaload, 1) := by decide +kernel
theorem dX7_seen_83 : decode cX7_seen 83 = .ok (.iaload, 1) := by decide +kernel
theorem dX7_seen_84 : decode cX7_seen 84 = .ok (.aload_n 0, 1) := by decide +kernel
theorem dX7_seen_85 : decode cX7_seen 85 = .ok (.getfield 23, 3) := by decide +kernel
theorem dX7_seen_88 : decode cX7_seen 88 = .ok (.iload 4, 2) := by decide +kernel
theorem dX7_seen_90 : decode cX7_seen 90 = .ok (.iaload, 1) := by decide +kernel
theorem dX7_seen_91 : decode cX7_seen 91 = .ok (.invokestatic 183, 3) := by decide +kernel
theorem dX7_seen_94 : decode cX7_seen 94 = .ok (.iadd, 1) := by decide +kernel
theorem dX7_seen_95 : decode cX7_seen 95 = .ok (.aload_n 0, 1) := by decide +kernel
theorem dX7_seen_96 : decode cX7_seen 96 = .ok (.getfield 20, 3) := by decide +kernel
theorem dX7_seen_99 : decode cX7_seen 99 = .ok (.iload_n 2, 1) := by decide +kernel
theorem dX7_seen_100 : decode cX7_seen 100 = .ok (.iaload, 1) := by decide +kernel
theorem dX7_seen_101 : decode cX7_seen 101 = .ok (.if_icmp .le 7, 3) := by decide +kernel
theorem dX7_seen_104 : decode cX7_seen 104 = .ok (.iconst 0, 1) := by decide +kernel
theorem dX7_seen_105 : decode cX7_seen 105 = .ok (.goto 4, 3) := by decide +kernel
theorem dX7_seen_108 : decode cX7_seen 108 = .ok (.iload_n 3, 1) := by decide +kernel
theorem dX7_seen_109 : decode cX7_seen 109 = .ok (.istore_n 3, 1) := by decide +kernel
theorem dX7_seen_110 : decode cX7_seen 110 = .ok (.iinc 4 1, 3) := by decide +kernel
theorem dX7_seen_113 : decode cX7_seen 113 = .ok (.goto (-90), 3) := by decide +kernel
theorem dX7_seen_116 : decode cX7_seen 116 = .ok (.iload_n 3, 1) := by decide +kernel
theorem dX7_seen_117 : decode cX7_seen 117 = .ok (.ireturn, 1) := by decide +kernel
theorem dX7_worth_0 : decode cX7_worth 0 = .ok (.aload_n 0, 1) := by decide +kernel
theorem dX7_worth_1 : decode cX7_worth 1 = .ok (.getfield 32, 3) := by decide +kernel
theorem dX7_worth_4 : decode cX7_worth 4 = .ok (.iload_n 1, 1) := by decide +kernel
theorem dX7_worth_5 : decode cX7_worth 5 = .ok (.iaload, 1) := by decide +kernel
theorem dX7_worth_6 : decode cX7_worth 6 = .ok (.iconst (-1), 1) := by decide +kernel
theorem dX7_worth_7 : decode cX7_worth 7 = .ok (.if_icmp .ne 7, 3) := by decide +kernel
theorem dX7_worth_10 : decode cX7_worth 10 = .ok (.iconst 0, 1) := by decide +kernel
theorem dX7_worth_11 : decode cX7_worth 11 = .ok (.goto 28, 3) := by decide +kernel
theorem dX7_worth_14 : decode cX7_worth 14 = .ok (.aload_n 0, 1) := by decide +kernel
theorem dX7_worth_15 : decode cX7_worth 15 = .ok (.getfield 23, 3) := by decide +kernel
theorem dX7_worth_18 : decode cX7_worth 18 = .ok (.iload_n 1, 1) := by decide +kernel
theorem dX7_worth_19 : decode cX7_worth 19 = .ok (.iaload, 1) := by decide +kernel
theorem dX7_worth_20 : decode cX7_worth 20 = .ok (.aload_n 0, 1) := by decide +kernel
theorem dX7_worth_21 : decode cX7_worth 21 = .ok (.iload_n 1, 1) := by decide +kernel
theorem dX7_worth_22 : decode cX7_worth 22 = .ok (.invokevirtual 186, 3) := by decide +kernel
theorem dX7_worth_25 : decode cX7_worth 25 = .ok (.aload_n 0, 1) := by decide +kernel
theorem dX7_worth_26 : decode cX7_worth 26 = .ok (.getfield 20, 3) := by decide +kernel
theorem dX7_worth_29 : decode cX7_worth 29 = .ok (.aload_n 0, 1) := by decide +kernel
theorem dX7_worth_30 : decode cX7_worth 30 = .ok (.getfield 32, 3) := by decide +kernel
theorem dX7_worth_33 : decode cX7_worth 33 = .ok (.iload_n 1, 1) := by decide +kernel
theorem dX7_worth_34 : decode cX7_worth 34 = .ok (.iaload, 1) := by decide +kernel
theorem dX7_worth_35 : decode cX7_worth 35 = .ok (.iaload, 1) := by decide +kernel
theorem dX7_worth_36 : decode cX7_worth 36 = .ok (.invokestatic 189, 3) := by decide +kernel
theorem dX7_worth_39 : decode cX7_worth 39 = .ok (.ireturn, 1) := by decide +kernel
theorem dX7_othersSee_0 : decode cX7_othersSee 0 = .ok (.iconst 0, 1) := by decide +kernel
theorem dX7_othersSee_1 : decode cX7_othersSee 1 = .ok (.istore_n 2, 1) := by decide +kernel
theorem dX7_othersSee_2 : decode cX7_othersSee 2 = .ok (.iconst 0, 1) := by decide +kernel
theorem dX7_othersSee_3 : decode cX7_othersSee 3 = .ok (.istore_n 3, 1) := by decide +kernel
theorem dX7_othersSee_4 : decode cX7_othersSee 4 = .ok (.iload_n 3, 1) := by decide +kernel
theorem dX7_othersSee_5 : decode cX7_othersSee 5 = .ok (.aload_n 0, 1) := by decide +kernel
theorem dX7_othersSee_6 : decode cX7_othersSee 6 = .ok (.getfield 79, 3) := by decide +kernel
theorem dX7_othersSee_9 : decode cX7_othersSee 9 = .ok (.if_icmp .ge 26, 3) := by decide +kernel
theorem dX7_othersSee_12 : decode cX7_othersSee 12 = .ok (.iload_n 2, 1) := by decide +kernel
theorem dX7_othersSee_13 : decode cX7_othersSee 13 = .ok (.iload_n 3, 1) := by decide +kernel
theorem dX7_othersSee_14 : decode cX7_othersSee 14 = .ok (.iload_n 1, 1) := by decide +kernel
theorem dX7_othersSee_15 : decode cX7_othersSee 15 = .ok (.if_icmp .ne 7, 3) := by decide +kernel
theorem dX7_othersSee_18 : decode cX7_othersSee 18 = .ok (.iconst 0, 1) := by decide +kernel
theorem dX7_othersSee_19 : decode cX7_othersSee 19 = .ok (.goto 8, 3) := by decide +kernel
theorem dX7_othersSee_22 : decode cX7_othersSee 22 = .ok (.aload_n 0, 1) := by decide +kernel
theorem dX7_othersSee_23 : decode cX7_othersSee 23 = .ok (.iload_n 3, 1) := by decide +kernel
theorem dX7_othersSee_24 : decode cX7_othersSee 24 = .ok (.invokevirtual 186, 3) := by decide +kernel
theorem dX7_othersSee_27 : decode cX7_othersSee 27 = .ok (.iadd, 1) := by decide +kernel
theorem dX7_othersSee_28 : decode cX7_othersSee 28 = .ok (.istore_n 2, 1) := by decide +kernel
theorem dX7_othersSee_29 : decode cX7_othersSee 29 = .ok (.iinc 3 1, 3) := by decide +kernel
theorem dX7_othersSee_32 : decode cX7_othersSee 32 = .ok (.goto (-28), 3) := by decide +kernel
theorem dX7_othersSee_35 : decode cX7_othersSee 35 = .ok (.iload_n 2, 1) := by decide +kernel
theorem dX7_othersSee_36 : decode cX7_othersSee 36 = .ok (.ireturn, 1) := by decide +kernel
theorem dX7_isOpen_0 : decode cX7_isOpen 0 = .ok (.aload_n 0, 1) := by decide +kernel
theorem dX7_isOpen_1 : decode cX7_isOpen 1 = .ok (.iload_n 2, 1) := by decide +kernel
theorem dX7_isOpen_2 : decode cX7_isOpen 2 = .ok (.invokevirtual 193, 3) := by decide +kernel
theorem dX7_isOpen_5 : decode cX7_isOpen 5 = .ok (.istore_n 3, 1) := by decide +kernel
theorem dX7_isOpen_6 : decode cX7_isOpen 6 = .ok (.iload_n 3, 1) := by decide +kernel
theorem dX7_isOpen_7 : decode cX7_isOpen 7 = .ok (.iconst (-1), 1) := by decide +kernel
theorem dX7_isOpen_8 : decode cX7_isOpen 8 = .ok (.if_icmp .eq 8, 3) := by decide +kernel
theorem dX7_isOpen_11 : decode cX7_isOpen 11 = .ok (.iload_n 3, 1) := by decide +kernel
theorem dX7_isOpen_12 : decode cX7_isOpen 12 = .ok (.iload_n 1, 1) := by decide +kernel
theorem dX7_isOpen_13 : decode cX7_isOpen 13 = .ok (.if_icmp .ne 7, 3) := by decide +kernel
theorem dX7_isOpen_16 : decode cX7_isOpen 16 = .ok (.iconst 1, 1) := by decide +kernel
theorem dX7_isOpen_17 : decode cX7_isOpen 17 = .ok (.goto 4, 3) := by decide +kernel
theorem dX7_isOpen_20 : decode cX7_isOpen 20 = .ok (.iconst 0, 1) := by decide +kernel
theorem dX7_isOpen_21 : decode cX7_isOpen 21 = .ok (.ireturn, 1) := by decide +kernel
theorem dX7_lays_0 : decode cX7_lays 0 = .ok (.iconst 0, 1) := by decide +kernel
theorem dX7_lays_1 : decode cX7_lays 1 = .ok (.istore_n 3, 1) := by decide +kernel
theorem dX7_lays_2 : decode cX7_lays 2 = .ok (.iload_n 3, 1) := by decide +kernel
theorem dX7_lays_3 : decode cX7_lays 3 = .ok (.iconst 5, 1) := by decide +kernel
theorem dX7_lays_4 : decode cX7_lays 4 = .ok (.if_icmp .ge 47, 3) := by decide +kernel
theorem dX7_lays_7 : decode cX7_lays 7 = .ok (.aload_n 1, 1) := by decide +kernel
theorem dX7_lays_8 : decode cX7_lays 8 = .ok (.iload_n 2, 1) := by decide +kernel
theorem dX7_lays_9 : decode cX7_lays 9 = .ok (.iload_n 3, 1) := by decide +kernel
theorem dX7_lays_10 : decode cX7_lays 10 = .ok (.iadd, 1) := by decide +kernel
theorem dX7_lays_11 : decode cX7_lays 11 = .ok (.aload_n 0, 1) := by decide +kernel
theorem dX7_lays_12 : decode cX7_lays 12 = .ok (.getfield 32, 3) := by decide +kernel
theorem dX7_lays_15 : decode cX7_lays 15 = .ok (.iload_n 3, 1) := by decide +kernel
theorem dX7_lays_16 : decode cX7_lays 16 = .ok (.iaload, 1) := by decide +kernel
theorem dX7_lays_17 : decode cX7_lays 17 = .ok (.iastore, 1) := by decide +kernel
theorem dX7_lays_18 : decode cX7_lays 18 = .ok (.aload_n 1, 1) := by decide +kernel
theorem dX7_lays_19 : decode cX7_lays 19 = .ok (.iload_n 2, 1) := by decide +kernel
theorem dX7_lays_20 : decode cX7_lays 20 = .ok (.iconst 5, 1) := by decide +kernel
theorem dX7_lays_21 : decode cX7_lays 21 = .ok (.iadd, 1) := by decide +kernel
theorem dX7_lays_22 : decode cX7_lays 22 = .ok (.iload_n 3, 1) := by decide +kernel
theorem dX7_lays_23 : decode cX7_lays 23 = .ok (.iadd, 1) := by decide +kernel
theorem dX7_lays_24 : decode cX7_lays 24 = .ok (.aload_n 0, 1) := by decide +kernel
theorem dX7_lays_25 : decode cX7_lays 25 = .ok (.getfield 26, 3) := by decide +kernel
theorem dX7_lays_28 : decode cX7_lays 28 = .ok (.iload_n 3, 1) := by decide +kernel
theorem dX7_lays_29 : decode cX7_lays 29 = .ok (.iaload, 1) := by decide +kernel
theorem dX7_lays_30 : decode cX7_lays 30 = .ok (.iastore, 1) := by decide +kernel
theorem dX7_lays_31 : decode cX7_lays 31 = .ok (.aload_n 1, 1) := by decide +kernel
theorem dX7_lays_32 : decode cX7_lays 32 = .ok (.iload_n 2, 1) := by decide +kernel
theorem dX7_lays_33 : decode cX7_lays 33 = .ok (.bipush 10, 2) := by decide +kernel
theorem dX7_lays_35 : decode cX7_lays 35 = .ok (.iadd, 1) := by decide +kernel
theorem dX7_lays_36 : decode cX7_lays 36 = .ok (.iload_n 3, 1) := by decide +kernel
theorem dX7_lays_37 : decode cX7_lays 37 = .ok (.iadd, 1) := by decide +kernel
theorem dX7_lays_38 : decode cX7_lays 38 = .ok (.aload_n 0, 1) := by decide +kernel
theorem dX7_lays_39 : decode cX7_lays 39 = .ok (.getfield 29, 3) := by decide +kernel
theorem dX7_lays_42 : decode cX7_lays 42 = .ok (.iload_n 3, 1) := by decide +kernel
theorem dX7_lays_43 : decode cX7_lays 43 = .ok (.iaload, 1) := by decide +kernel
theorem dX7_lays_44 : decode cX7_lays 44 = .ok (.iastore, 1) := by decide +kernel
theorem dX7_lays_45 : decode cX7_lays 45 = .ok (.iinc 3 1, 3) := by decide +kernel
theorem dX7_lays_48 : decode cX7_lays 48 = .ok (.goto (-46), 3) := by decide +kernel
theorem dX7_lays_51 : decode cX7_lays 51 = .ok (.return_, 1) := by decide +kernel
theorem dX7_takes_0 : decode cX7_takes 0 = .ok (.iconst 0, 1) := by decide +kernel
theorem dX7_takes_1 : decode cX7_takes 1 = .ok (.istore_n 3, 1) := by decide +kernel
theorem dX7_takes_2 : decode cX7_takes 2 = .ok (.iload_n 3, 1) := by decide +kernel
theorem dX7_takes_3 : decode cX7_takes 3 = .ok (.iconst 5, 1) := by decide +kernel
theorem dX7_takes_4 : decode cX7_takes 4 = .ok (.if_icmp .ge 47, 3) := by decide +kernel
theorem dX7_takes_7 : decode cX7_takes 7 = .ok (.aload_n 0, 1) := by decide +kernel
theorem dX7_takes_8 : decode cX7_takes 8 = .ok (.getfield 32, 3) := by decide +kernel
theorem dX7_takes_11 : decode cX7_takes 11 = .ok (.iload_n 3, 1) := by decide +kernel
theorem dX7_takes_12 : decode cX7_takes 12 = .ok (.aload_n 1, 1) := by decide +kernel
theorem dX7_takes_13 : decode cX7_takes 13 = .ok (.iload_n 2, 1) := by decide +kernel
theorem dX7_takes_14 : decode cX7_takes 14 = .ok (.iload_n 3, 1) := by decide +kernel
theorem dX7_takes_15 : decode cX7_takes 15 = .ok (.iadd, 1) := by decide +kernel
theorem dX7_takes_16 : decode cX7_takes 16 = .ok (.iaload, 1) := by decide +kernel
theorem dX7_takes_17 : decode cX7_takes 17 = .ok (.iastore, 1) := by decide +kernel
theorem dX7_takes_18 : decode cX7_takes 18 = .ok (.aload_n 0, 1) := by decide +kernel
theorem dX7_takes_19 : decode cX7_takes 19 = .ok (.getfield 26, 3) := by decide +kernel
theorem dX7_takes_22 : decode cX7_takes 22 = .ok (.iload_n 3, 1) := by decide +kernel
theorem dX7_takes_23 : decode cX7_takes 23 = .ok (.aload_n 1, 1) := by decide +kernel
theorem dX7_takes_24 : decode cX7_takes 24 = .ok (.iload_n 2, 1) := by decide +kernel
theorem dX7_takes_25 : decode cX7_takes 25 = .ok (.iconst 5, 1) := by decide +kernel
theorem dX7_takes_26 : decode cX7_takes 26 = .ok (.iadd, 1) := by decide +kernel
theorem dX7_takes_27 : decode cX7_takes 27 = .ok (.iload_n 3, 1) := by decide +kernel
theorem dX7_takes_28 : decode cX7_takes 28 = .ok (.iadd, 1) := by decide +kernel
theorem dX7_takes_29 : decode cX7_takes 29 = .ok (.iaload, 1) := by decide +kernel
theorem dX7_takes_30 : decode cX7_takes 30 = .ok (.iastore, 1) := by decide +kernel
theorem dX7_takes_31 : decode cX7_takes 31 = .ok (.aload_n 0, 1) := by decide +kernel
theorem dX7_takes_32 : decode cX7_takes 32 = .ok (.getfield 29, 3) := by decide +kernel
theorem dX7_takes_35 : decode cX7_takes 35 = .ok (.iload_n 3, 1) := by decide +kernel
theorem dX7_takes_36 : decode cX7_takes 36 = .ok (.aload_n 1, 1) := by decide +kernel
theorem dX7_takes_37 : decode cX7_takes 37 = .ok (.iload_n 2, 1) := by decide +kernel
theorem dX7_takes_38 : decode cX7_takes 38 = .ok (.bipush 10, 2) := by decide +kernel
theorem dX7_takes_40 : decode cX7_takes 40 = .ok (.iadd, 1) := by decide +kernel
theorem dX7_takes_41 : decode cX7_takes 41 = .ok (.iload_n 3, 1) := by decide +kernel
theorem dX7_takes_42 : decode cX7_takes 42 = .ok (.iadd, 1) := by decide +kernel
theorem dX7_takes_43 : decode cX7_takes 43 = .ok (.iaload, 1) := by decide +kernel
theorem dX7_takes_44 : decode cX7_takes 44 = .ok (.iastore, 1) := by decide +kernel
theorem dX7_takes_45 : decode cX7_takes 45 = .ok (.iinc 3 1, 3) := by decide +kernel
theorem dX7_takes_48 : decode cX7_takes 48 = .ok (.goto (-46), 3) := by decide +kernel
theorem dX7_takes_51 : decode cX7_takes 51 = .ok (.return_, 1) := by decide +kernel
theorem dX7_notes_0 : decode cX7_notes 0 = .ok (.aload_n 0, 1) := by decide +kernel
theorem dX7_notes_1 : decode cX7_notes 1 = .ok (.getfield 85, 3) := by decide +kernel
theorem dX7_notes_4 : decode cX7_notes 4 = .ok (.bipush 8, 2) := by decide +kernel
theorem dX7_notes_6 : decode cX7_notes 6 = .ok (.if_icmp .ne 42, 3) := by decide +kernel
theorem dX7_notes_9 : decode cX7_notes 9 = .ok (.iconst 0, 1) := by decide +kernel
theorem dX7_notes_10 : decode cX7_notes 10 = .ok (.istore_n 1, 1) := by decide +kernel
theorem dX7_notes_11 : decode cX7_notes 11 = .ok (.iload_n 1, 1) := by decide +kernel
theorem dX7_notes_12 : decode cX7_notes 12 = .ok (.bipush 105, 2) := by decide +kernel
theorem dX7_notes_14 : decode cX7_notes 14 = .ok (.if_icmp .ge 24, 3) := by decide +kernel
theorem dX7_notes_17 : decode cX7_notes 17 = .ok (.aload_n 0, 1) := by decide +kernel
theorem dX7_notes_18 : decode cX7_notes 18 = .ok (.getfield 56, 3) := by decide +kernel
theorem dX7_notes_21 : decode cX7_notes 21 = .ok (.iload_n 1, 1) := by decide +kernel
theorem dX7_notes_22 : decode cX7_notes 22 = .ok (.aload_n 0, 1) := by decide +kernel
theorem dX7_notes_23 : decode cX7_notes 23 = .ok (.getfield 56, 3) := by decide +kernel
theorem dX7_notes_26 : decode cX7_notes 26 = .ok (.iload_n 1, 1) := by decide +kernel
theorem dX7_notes_27 : decode cX7_notes 27 = .ok (.bipush 15, 2) := by decide +kernel
theorem dX7_notes_29 : decode cX7_notes 29 = .ok (.iadd, 1) := by decide +kernel
theorem dX7_notes_30 : decode cX7_notes 30 = .ok (.iaload, 1) := by decide +kernel
theorem dX7_notes_31 : decode cX7_notes 31 = .ok (.iastore, 1) := by decide +kernel
theorem dX7_notes_32 : decode cX7_notes 32 = .ok (.iinc 1 1, 3) := by decide +kernel
theorem dX7_notes_35 : decode cX7_notes 35 = .ok (.goto (-24), 3) := by decide +kernel
theorem dX7_notes_38 : decode cX7_notes 38 = .ok (.aload_n 0, 1) := by decide +kernel
theorem dX7_notes_39 : decode cX7_notes 39 = .ok (.dup, 1) := by decide +kernel
theorem dX7_notes_40 : decode cX7_notes 40 = .ok (.getfield 85, 3) := by decide +kernel
theorem dX7_notes_43 : decode cX7_notes 43 = .ok (.iconst 1, 1) := by decide +kernel
theorem dX7_notes_44 : decode cX7_notes 44 = .ok (.isub, 1) := by decide +kernel
theorem dX7_notes_45 : decode cX7_notes 45 = .ok (.putfield 85, 3) := by decide +kernel
theorem dX7_notes_48 : decode cX7_notes 48 = .ok (.aload_n 0, 1) := by decide +kernel
theorem dX7_notes_49 : decode cX7_notes 49 = .ok (.aload_n 0, 1) := by decide +kernel
theorem dX7_notes_50 : decode cX7_notes 50 = .ok (.getfield 56, 3) := by decide +kernel
theorem dX7_notes_53 : decode cX7_notes 53 = .ok (.bipush 15, 2) := by decide +kernel
theorem dX7_notes_55 : decode cX7_notes 55 = .ok (.aload_n 0, 1) := by decide +kernel
theorem dX7_notes_56 : decode cX7_notes 56 = .ok (.getfield 85, 3) := by decide +kernel
theorem dX7_notes_59 : decode cX7_notes 59 = .ok (.imul, 1) := by decide +kernel
theorem dX7_notes_60 : decode cX7_notes 60 = .ok (.invokevirtual 196, 3) := by decide +kernel
theorem dX7_notes_63 : decode cX7_notes 63 = .ok (.aload_n 0, 1) := by decide +kernel
theorem dX7_notes_64 : decode cX7_notes 64 = .ok (.dup, 1) := by decide +kernel
theorem dX7_notes_65 : decode cX7_notes 65 = .ok (.getfield 85, 3) := by decide +kernel
theorem dX7_notes_68 : decode cX7_notes 68 = .ok (.iconst 1, 1) := by decide +kernel
theorem dX7_notes_69 : decode cX7_notes 69 = .ok (.iadd, 1) := by decide +kernel
theorem dX7_notes_70 : decode cX7_notes 70 = .ok (.putfield 85, 3) := by decide +kernel
theorem dX7_notes_73 : decode cX7_notes 73 = .ok (.return_, 1) := by decide +kernel
theorem dX7_free_0 : decode cX7_free 0 = .ok (.bipush 8, 2) := by decide +kernel
theorem dX7_free_2 : decode cX7_free 2 = .ok (.istore_n 1, 1) := by decide +kernel
theorem dX7_free_3 : decode cX7_free 3 = .ok (.iconst 0, 1) := by decide +kernel
theorem dX7_free_4 : decode cX7_free 4 = .ok (.istore_n 2, 1) := by decide +kernel
theorem dX7_free_5 : decode cX7_free 5 = .ok (.iload_n 2, 1) := by decide +kernel
theorem dX7_free_6 : decode cX7_free 6 = .ok (.aload_n 0, 1) := by decide +kernel
theorem dX7_free_7 : decode cX7_free 7 = .ok (.getfield 79, 3) := by decide +kernel
theorem dX7_free_10 : decode cX7_free 10 = .ok (.if_icmp .ge 27, 3) := by decide +kernel
theorem dX7_free_13 : decode cX7_free 13 = .ok (.iload_n 1, 1) := by decide +kernel
theorem dX7_free_14 : decode cX7_free 14 = .ok (.aload_n 0, 1) := by decide +kernel
theorem dX7_free_15 : decode cX7_free 15 = .ok (.getfield 32, 3) := by decide +kernel
theorem dX7_free_18 : decode cX7_free 18 = .ok (.iload_n 2, 1) := by decide +kernel
theorem dX7_free_19 : decode cX7_free 19 = .ok (.iaload, 1) := by decide +kernel
theorem dX7_free_20 : decode cX7_free 20 = .ok (.iconst (-1), 1) := by decide +kernel
theorem dX7_free_21 : decode cX7_free 21 = .ok (.if_icmp .ne 7, 3) := by decide +kernel
theorem dX7_free_24 : decode cX7_free 24 = .ok (.iconst 0, 1) := by decide +kernel
theorem dX7_free_25 : decode cX7_free 25 = .ok (.goto 4, 3) := by decide +kernel
theorem dX7_free_28 : decode cX7_free 28 = .ok (.iconst 1, 1) := by decide +kernel
theorem dX7_free_29 : decode cX7_free 29 = .ok (.isub, 1) := by decide +kernel
theorem dX7_free_30 : decode cX7_free 30 = .ok (.istore_n 1, 1) := by decide +kernel
theorem dX7_free_31 : decode cX7_free 31 = .ok (.iinc 2 1, 3) := by decide +kernel
theorem dX7_free_34 : decode cX7_free 34 = .ok (.goto (-29), 3) := by decide +kernel
theorem dX7_free_37 : decode cX7_free 37 = .ok (.iload_n 1, 1) := by decide +kernel
theorem dX7_free_38 : decode cX7_free 38 = .ok (.ireturn, 1) := by decide +kernel
theorem dX7_sell_0 : decode cX7_sell 0 = .ok (.iload_n 1, 1) := by decide +kernel
theorem dX7_sell_1 : decode cX7_sell 1 = .ok (.invokestatic 92, 3) := by decide +kernel
theorem dX7_sell_4 : decode cX7_sell 4 = .ok (.ifCond .ne 8, 3) := by decide +kernel
theorem dX7_sell_7 : decode cX7_sell 7 = .ok (.aload_n 0, 1) := by decide +kernel
theorem dX7_sell_8 : decode cX7_sell 8 = .ok (.invokevirtual 96, 3) := by decide +kernel
theorem dX7_sell_11 : decode cX7_sell 11 = .ok (.ireturn, 1) := by decide +kernel
theorem dX7_sell_12 : decode cX7_sell 12 = .ok (.aload_n 0, 1) := by decide +kernel
theorem dX7_sell_13 : decode cX7_sell 13 = .ok (.iload_n 1, 1) := by decide +kernel
theorem dX7_sell_14 : decode cX7_sell 14 = .ok (.invokevirtual 193, 3) := by decide +kernel
theorem dX7_sell_17 : decode cX7_sell 17 = .ok (.iconst (-1), 1) := by decide +kernel
theorem dX7_sell_18 : decode cX7_sell 18 = .ok (.if_icmp .ne 11, 3) := by decide +kernel
theorem dX7_sell_21 : decode cX7_sell 21 = .ok (.aload_n 0, 1) := by decide +kernel
theorem dX7_sell_22 : decode cX7_sell 22 = .ok (.iload_n 1, 1) := by decide +kernel
theorem dX7_sell_23 : decode cX7_sell 23 = .ok (.invokevirtual 200, 3) := by decide +kernel
theorem dX7_sell_26 : decode cX7_sell 26 = .ok (.goto 4, 3) := by decide +kernel
theorem dX7_sell_29 : decode cX7_sell 29 = .ok (.iconst (-1), 1) := by decide +kernel
theorem dX7_sell_30 : decode cX7_sell 30 = .ok (.istore_n 2, 1) := by decide +kernel
theorem dX7_sell_31 : decode cX7_sell 31 = .ok (.iload_n 2, 1) := by decide +kernel
theorem dX7_sell_32 : decode cX7_sell 32 = .ok (.iconst (-1), 1) := by decide +kernel
theorem dX7_sell_33 : decode cX7_sell 33 = .ok (.if_icmp .ne 8, 3) := by decide +kernel
theorem dX7_sell_36 : decode cX7_sell 36 = .ok (.aload_n 0, 1) := by decide +kernel
theorem dX7_sell_37 : decode cX7_sell 37 = .ok (.invokevirtual 203, 3) := by decide +kernel
theorem dX7_sell_40 : decode cX7_sell 40 = .ok (.ireturn, 1) := by decide +kernel
theorem dX7_sell_41 : decode cX7_sell 41 = .ok (.aload_n 0, 1) := by decide +kernel
theorem dX7_sell_42 : decode cX7_sell 42 = .ok (.iload_n 2, 1) := by decide +kernel
theorem dX7_sell_43 : decode cX7_sell 43 = .ok (.iload_n 1, 1) := by decide +kernel
theorem dX7_sell_44 : decode cX7_sell 44 = .ok (.invokevirtual 206, 3) := by decide +kernel
theorem dX7_sell_47 : decode cX7_sell 47 = .ok (.istore_n 3, 1) := by decide +kernel
theorem dX7_sell_48 : decode cX7_sell 48 = .ok (.aload_n 0, 1) := by decide +kernel
theorem dX7_sell_49 : decode cX7_sell 49 = .ok (.invokevirtual 209, 3) := by decide +kernel
theorem dX7_sell_52 : decode cX7_sell 52 = .ok (.aload_n 0, 1) := by decide +kernel
theorem dX7_sell_53 : decode cX7_sell 53 = .ok (.getfield 32, 3) := by decide +kernel
theorem dX7_sell_56 : decode cX7_sell 56 = .ok (.iload_n 2, 1) := by decide +kernel
theorem dX7_sell_57 : decode cX7_sell 57 = .ok (.iload_n 1, 1) := by decide +kernel
theorem dX7_sell_58 : decode cX7_sell 58 = .ok (.iastore, 1) := by decide +kernel
theorem dX7_sell_59 : decode cX7_sell 59 = .ok (.aload_n 0, 1) := by decide +kernel
theorem dX7_sell_60 : decode cX7_sell 60 = .ok (.getfield 26, 3) := by decide +kernel
theorem dX7_sell_63 : decode cX7_sell 63 = .ok (.iload_n 2, 1) := by decide +kernel
theorem dX7_sell_64 : decode cX7_sell 64 = .ok (.dup2, 1) := by decide +kernel
theorem dX7_sell_65 : decode cX7_sell 65 = .ok (.iaload, 1) := by decide +kernel
theorem dX7_sell_66 : decode cX7_sell 66 = .ok (.iload_n 3, 1) := by decide +kernel
theorem dX7_sell_67 : decode cX7_sell 67 = .ok (.isub, 1) := by decide +kernel
theorem dX7_sell_68 : decode cX7_sell 68 = .ok (.iastore, 1) := by decide +kernel
theorem dX7_sell_69 : decode cX7_sell 69 = .ok (.aload_n 0, 1) := by decide +kernel
theorem dX7_sell_70 : decode cX7_sell 70 = .ok (.getfield 29, 3) := by decide +kernel
theorem dX7_sell_73 : decode cX7_sell 73 = .ok (.iload_n 2, 1) := by decide +kernel
theorem dX7_sell_74 : decode cX7_sell 74 = .ok (.dup2, 1) := by decide +kernel
theorem dX7_sell_75 : decode cX7_sell 75 = .ok (.iaload, 1) := by decide +kernel
theorem dX7_sell_76 : decode cX7_sell 76 = .ok (.iload_n 3, 1) := by decide +kernel
theorem dX7_sell_77 : decode cX7_sell 77 = .ok (.iadd, 1) := by decide +kernel
theorem dX7_sell_78 : decode cX7_sell 78 = .ok (.iastore, 1) := by decide +kernel
theorem dX7_sell_79 : decode cX7_sell 79 = .ok (.iload_n 2, 1) := by decide +kernel
theorem dX7_sell_80 : decode cX7_sell 80 = .ok (.ireturn, 1) := by decide +kernel
theorem dX7_leave_0 : decode cX7_leave 0 = .ok (.aload_n 0, 1) := by decide +kernel
theorem dX7_leave_1 : decode cX7_leave 1 = .ok (.iload_n 1, 1) := by decide +kernel
theorem dX7_leave_2 : decode cX7_leave 2 = .ok (.invokevirtual 212, 3) := by decide +kernel
theorem dX7_leave_5 : decode cX7_leave 5 = .ok (.ifCond .ne 8, 3) := by decide +kernel
theorem dX7_leave_8 : decode cX7_leave 8 = .ok (.aload_n 0, 1) := by decide +kernel
theorem dX7_leave_9 : decode cX7_leave 9 = .ok (.invokevirtual 96, 3) := by decide +kernel
theorem dX7_leave_12 : decode cX7_leave 12 = .ok (.ireturn, 1) := by decide +kernel
theorem dX7_leave_13 : decode cX7_leave 13 = .ok (.aload_n 0, 1) := by decide +kernel
theorem dX7_leave_14 : decode cX7_leave 14 = .ok (.getfield 32, 3) := by decide +kernel
theorem dX7_leave_17 : decode cX7_leave 17 = .ok (.iload_n 1, 1) := by decide +kernel
theorem dX7_leave_18 : decode cX7_leave 18 = .ok (.iaload, 1) := by decide +kernel
theorem dX7_leave_19 : decode cX7_leave 19 = .ok (.iconst (-1), 1) := by decide +kernel
theorem dX7_leave_20 : decode cX7_leave 20 = .ok (.if_icmp .ne 8, 3) := by decide +kernel
theorem dX7_leave_23 : decode cX7_leave 23 = .ok (.aload_n 0, 1) := by decide +kernel
theorem dX7_leave_24 : decode cX7_leave 24 = .ok (.invokevirtual 203, 3) := by decide +kernel
theorem dX7_leave_27 : decode cX7_leave 27 = .ok (.ireturn, 1) := by decide +kernel
theorem dX7_leave_28 : decode cX7_leave 28 = .ok (.aload_n 0, 1) := by decide +kernel
theorem dX7_leave_29 : decode cX7_leave 29 = .ok (.invokevirtual 209, 3) := by decide +kernel
theorem dX7_leave_32 : decode cX7_leave 32 = .ok (.aload_n 0, 1) := by decide +kernel
theorem dX7_leave_33 : decode cX7_leave 33 = .ok (.getfield 32, 3) := by decide +kernel
theorem dX7_leave_36 : decode cX7_leave 36 = .ok (.iload_n 1, 1) := by decide +kernel
theorem dX7_leave_37 : decode cX7_leave 37 = .ok (.iaload, 1) := by decide +kernel
theorem dX7_leave_38 : decode cX7_leave 38 = .ok (.istore_n 2, 1) := by decide +kernel
theorem dX7_leave_39 : decode cX7_leave 39 = .ok (.aload_n 0, 1) := by decide +kernel
theorem dX7_leave_40 : decode cX7_leave 40 = .ok (.getfield 32, 3) := by decide +kernel
theorem dX7_leave_43 : decode cX7_leave 43 = .ok (.iload_n 1, 1) := by decide +kernel
theorem dX7_leave_44 : decode cX7_leave 44 = .ok (.iconst (-1), 1) := by decide +kernel
theorem dX7_leave_45 : decode cX7_leave 45 = .ok (.iastore, 1) := by decide +kernel
theorem dX7_leave_46 : decode cX7_leave 46 = .ok (.iload_n 2, 1) := by decide +kernel
theorem dX7_leave_47 : decode cX7_leave 47 = .ok (.ireturn, 1) := by decide +kernel
theorem dX7_moves_0 : decode cX7_moves 0 = .ok (.aload_n 0, 1) := by decide +kernel
theorem dX7_moves_1 : decode cX7_moves 1 = .ok (.iload_n 1, 1) := by decide +kernel
theorem dX7_moves_2 : decode cX7_moves 2 = .ok (.invokevirtual 212, 3) := by decide +kernel
theorem dX7_moves_5 : decode cX7_moves 5 = .ok (.ifCond .eq 10, 3) := by decide +kernel
theorem dX7_moves_8 : decode cX7_moves 8 = .ok (.iload_n 2, 1) := by decide +kernel
theorem dX7_moves_9 : decode cX7_moves 9 = .ok (.invokestatic 92, 3) := by decide +kernel
theorem dX7_moves_12 : decode cX7_moves 12 = .ok (.ifCond .ne 8, 3) := by decide +kernel
theorem dX7_moves_15 : decode cX7_moves 15 = .ok (.aload_n 0, 1) := by decide +kernel
theorem dX7_moves_16 : decode cX7_moves 16 = .ok (.invokevirtual 96, 3) := by decide +kernel
theorem dX7_moves_19 : decode cX7_moves 19 = .ok (.ireturn, 1) := by decide +kernel
theorem dX7_moves_20 : decode cX7_moves 20 = .ok (.aload_n 0, 1) := by decide +kernel
theorem dX7_moves_21 : decode cX7_moves 21 = .ok (.getfield 32, 3) := by decide +kernel
theorem dX7_moves_24 : decode cX7_moves 24 = .ok (.iload_n 1, 1) := by decide +kernel
theorem dX7_moves_25 : decode cX7_moves 25 = .ok (.iaload, 1) := by decide +kernel
theorem dX7_moves_26 : decode cX7_moves 26 = .ok (.iconst (-1), 1) := by decide +kernel
theorem dX7_moves_27 : decode cX7_moves 27 = .ok (.if_icmp .eq 12, 3) := by decide +kernel
theorem dX7_moves_30 : decode cX7_moves 30 = .ok (.aload_n 0, 1) := by decide +kernel
theorem dX7_moves_31 : decode cX7_moves 31 = .ok (.iload_n 2, 1) := by decide +kernel
theorem dX7_moves_32 : decode cX7_moves 32 = .ok (.invokevirtual 193, 3) := by decide +kernel
theorem dX7_moves_35 : decode cX7_moves 35 = .ok (.iconst (-1), 1) := by decide +kernel
theorem dX7_moves_36 : decode cX7_moves 36 = .ok (.if_icmp .eq 8, 3) := by decide +kernel
theorem dX7_moves_39 : decode cX7_moves 39 = .ok (.aload_n 0, 1) := by decide +kernel
theorem dX7_moves_40 : decode cX7_moves 40 = .ok (.invokevirtual 203, 3) := by decide +kernel
theorem dX7_moves_43 : decode cX7_moves 43 = .ok (.ireturn, 1) := by decide +kernel
theorem dX7_moves_44 : decode cX7_moves 44 = .ok (.aload_n 0, 1) := by decide +kernel
theorem dX7_moves_45 : decode cX7_moves 45 = .ok (.invokevirtual 209, 3) := by decide +kernel
theorem dX7_moves_48 : decode cX7_moves 48 = .ok (.aload_n 0, 1) := by decide +kernel
theorem dX7_moves_49 : decode cX7_moves 49 = .ok (.getfield 32, 3) := by decide +kernel
theorem dX7_moves_52 : decode cX7_moves 52 = .ok (.iload_n 1, 1) := by decide +kernel
theorem dX7_moves_53 : decode cX7_moves 53 = .ok (.iaload, 1) := by decide +kernel
theorem dX7_moves_54 : decode cX7_moves 54 = .ok (.istore_n 3, 1) := by decide +kernel
theorem dX7_moves_55 : decode cX7_moves 55 = .ok (.aload_n 0, 1) := by decide +kernel
theorem dX7_moves_56 : decode cX7_moves 56 = .ok (.getfield 32, 3) := by decide +kernel
theorem dX7_moves_59 : decode cX7_moves 59 = .ok (.iload_n 1, 1) := by decide +kernel
theorem dX7_moves_60 : decode cX7_moves 60 = .ok (.iload_n 2, 1) := by decide +kernel
theorem dX7_moves_61 : decode cX7_moves 61 = .ok (.iastore, 1) := by decide +kernel
theorem dX7_moves_62 : decode cX7_moves 62 = .ok (.iload_n 3, 1) := by decide +kernel
theorem dX7_moves_63 : decode cX7_moves 63 = .ok (.ireturn, 1) := by decide +kernel
theorem dX7_undo_0 : decode cX7_undo 0 = .ok (.aload_n 0, 1) := by decide +kernel
theorem dX7_undo_1 : decode cX7_undo 1 = .ok (.getfield 85, 3) := by decide +kernel
theorem dX7_undo_4 : decode cX7_undo 4 = .ok (.ifCond .ne 8, 3) := by decide +kernel
theorem dX7_undo_7 : decode cX7_undo 7 = .ok (.aload_n 0, 1) := by decide +kernel
theorem dX7_undo_8 : decode cX7_undo 8 = .ok (.invokevirtual 203, 3) := by decide +kernel
theorem dX7_undo_11 : decode cX7_undo 11 = .ok (.ireturn, 1) := by decide +kernel
theorem dX7_undo_12 : decode cX7_undo 12 = .ok (.aload_n 0, 1) := by decide +kernel
theorem dX7_undo_13 : decode cX7_undo 13 = .ok (.dup, 1) := by decide +kernel
theorem dX7_undo_14 : decode cX7_undo 14 = .ok (.getfield 85, 3) := by decide +kernel
theorem dX7_undo_17 : decode cX7_undo 17 = .ok (.iconst 1, 1) := by decide +kernel
theorem dX7_undo_18 : decode cX7_undo 18 = .ok (.isub, 1) := by decide +kernel
theorem dX7_undo_19 : decode cX7_undo 19 = .ok (.putfield 85, 3) := by decide +kernel
theorem dX7_undo_22 : decode cX7_undo 22 = .ok (.aload_n 0, 1) := by decide +kernel
theorem dX7_undo_23 : decode cX7_undo 23 = .ok (.aload_n 0, 1) := by decide +kernel
theorem dX7_undo_24 : decode cX7_undo 24 = .ok (.getfield 56, 3) := by decide +kernel
theorem dX7_undo_27 : decode cX7_undo 27 = .ok (.bipush 15, 2) := by decide +kernel
theorem dX7_undo_29 : decode cX7_undo 29 = .ok (.aload_n 0, 1) := by decide +kernel
theorem dX7_undo_30 : decode cX7_undo 30 = .ok (.getfield 85, 3) := by decide +kernel
theorem dX7_undo_33 : decode cX7_undo 33 = .ok (.imul, 1) := by decide +kernel
theorem dX7_undo_34 : decode cX7_undo 34 = .ok (.invokevirtual 215, 3) := by decide +kernel
theorem dX7_undo_37 : decode cX7_undo 37 = .ok (.aload_n 0, 1) := by decide +kernel
theorem dX7_undo_38 : decode cX7_undo 38 = .ok (.invokevirtual 218, 3) := by decide +kernel
theorem dX7_undo_41 : decode cX7_undo 41 = .ok (.ireturn, 1) := by decide +kernel
theorem dX7_of_0 : decode cX7_of 0 = .ok (.aload_n 0, 1) := by decide +kernel
theorem dX7_of_1 : decode cX7_of 1 = .ok (.iload_n 1, 1) := by decide +kernel
theorem dX7_of_2 : decode cX7_of 2 = .ok (.invokevirtual 212, 3) := by decide +kernel
theorem dX7_of_5 : decode cX7_of 5 = .ok (.ifCond .eq 12, 3) := by decide +kernel
theorem dX7_of_8 : decode cX7_of 8 = .ok (.iload_n 2, 1) := by decide +kernel
theorem dX7_of_9 : decode cX7_of 9 = .ok (.iconst 0, 1) := by decide +kernel
theorem dX7_of_10 : decode cX7_of 10 = .ok (.iconst 4, 1) := by decide +kernel
theorem dX7_of_11 : decode cX7_of 11 = .ok (.invokestatic 88, 3) := by decide +kernel
theorem dX7_of_14 : decode cX7_of 14 = .ok (.ifCond .ne 8, 3) := by decide +kernel
theorem dX7_of_17 : decode cX7_of 17 = .ok (.aload_n 0, 1) := by decide +kernel
theorem dX7_of_18 : decode cX7_of 18 = .ok (.invokevirtual 221, 3) := by decide +kernel
theorem dX7_of_21 : decode cX7_of 21 = .ok (.ireturn, 1) := by decide +kernel
theorem dX7_of_22 : decode cX7_of 22 = .ok (.iload_n 2, 1) := by decide +kernel
theorem dX7_of_23 : decode cX7_of 23 = .ok (.tableswitch 57 0 3 #[29, 36, 43, 50], 29) := by decide +kernel
theorem dX7_of_52 : decode cX7_of 52 = .ok (.aload_n 0, 1) := by decide +kernel
theorem dX7_of_53 : decode cX7_of 53 = .ok (.getfield 23, 3) := by decide +kernel
theorem dX7_of_56 : decode cX7_of 56 = .ok (.iload_n 1, 1) := by decide +kernel
theorem dX7_of_57 : decode cX7_of 57 = .ok (.iaload, 1) := by decide +kernel
theorem dX7_of_58 : decode cX7_of 58 = .ok (.ireturn, 1) := by decide +kernel
theorem dX7_of_59 : decode cX7_of 59 = .ok (.aload_n 0, 1) := by decide +kernel
theorem dX7_of_60 : decode cX7_of 60 = .ok (.getfield 26, 3) := by decide +kernel
theorem dX7_of_63 : decode cX7_of 63 = .ok (.iload_n 1, 1) := by decide +kernel
theorem dX7_of_64 : decode cX7_of 64 = .ok (.iaload, 1) := by decide +kernel
theorem dX7_of_65 : decode cX7_of 65 = .ok (.ireturn, 1) := by decide +kernel
theorem dX7_of_66 : decode cX7_of 66 = .ok (.aload_n 0, 1) := by decide +kernel
theorem dX7_of_67 : decode cX7_of 67 = .ok (.getfield 29, 3) := by decide +kernel
theorem dX7_of_70 : decode cX7_of 70 = .ok (.iload_n 1, 1) := by decide +kernel
theorem dX7_of_71 : decode cX7_of 71 = .ok (.iaload, 1) := by decide +kernel
theorem dX7_of_72 : decode cX7_of 72 = .ok (.ireturn, 1) := by decide +kernel
theorem dX7_of_73 : decode cX7_of 73 = .ok (.aload_n 0, 1) := by decide +kernel
theorem dX7_of_74 : decode cX7_of 74 = .ok (.getfield 32, 3) := by decide +kernel
theorem dX7_of_77 : decode cX7_of 77 = .ok (.iload_n 1, 1) := by decide +kernel
theorem dX7_of_78 : decode cX7_of 78 = .ok (.iaload, 1) := by decide +kernel
theorem dX7_of_79 : decode cX7_of 79 = .ok (.ireturn, 1) := by decide +kernel
theorem dX7_of_80 : decode cX7_of 80 = .ok (.aload_n 0, 1) := by decide +kernel
theorem dX7_of_81 : decode cX7_of 81 = .ok (.getfield 23, 3) := by decide +kernel
theorem dX7_of_84 : decode cX7_of 84 = .ok (.iload_n 1, 1) := by decide +kernel
theorem dX7_of_85 : decode cX7_of 85 = .ok (.iaload, 1) := by decide +kernel
theorem dX7_of_86 : decode cX7_of 86 = .ok (.invokestatic 183, 3) := by decide +kernel
theorem dX7_of_89 : decode cX7_of 89 = .ok (.ireturn, 1) := by decide +kernel
theorem dX7_yard_0 : decode cX7_yard 0 = .ok (.iload_n 1, 1) := by decide +kernel
theorem dX7_yard_1 : decode cX7_yard 1 = .ok (.invokestatic 92, 3) := by decide +kernel
theorem dX7_yard_4 : decode cX7_yard 4 = .ok (.ifCond .eq 12, 3) := by decide +kernel
theorem dX7_yard_7 : decode cX7_yard 7 = .ok (.iload_n 2, 1) := by decide +kernel
theorem dX7_yard_8 : decode cX7_yard 8 = .ok (.iconst 0, 1) := by decide +kernel
theorem dX7_yard_9 : decode cX7_yard 9 = .ok (.iconst 2, 1) := by decide +kernel
theorem dX7_yard_10 : decode cX7_yard 10 = .ok (.invokestatic 88, 3) := by decide +kernel
theorem dX7_yard_13 : decode cX7_yard 13 = .ok (.ifCond .ne 8, 3) := by decide +kernel
theorem dX7_yard_16 : decode cX7_yard 16 = .ok (.aload_n 0, 1) := by decide +kernel
theorem dX7_yard_17 : decode cX7_yard 17 = .ok (.invokevirtual 221, 3) := by decide +kernel
theorem dX7_yard_20 : decode cX7_yard 20 = .ok (.ireturn, 1) := by decide +kernel
theorem dX7_yard_21 : decode cX7_yard 21 = .ok (.iload_n 2, 1) := by decide +kernel
theorem dX7_yard_22 : decode cX7_yard 22 = .ok (.ifCond .ne 12, 3) := by decide +kernel
theorem dX7_yard_25 : decode cX7_yard 25 = .ok (.aload_n 0, 1) := by decide +kernel
theorem dX7_yard_26 : decode cX7_yard 26 = .ok (.getfield 20, 3) := by decide +kernel
theorem dX7_yard_29 : decode cX7_yard 29 = .ok (.iload_n 1, 1) := by decide +kernel
theorem dX7_yard_30 : decode cX7_yard 30 = .ok (.iaload, 1) := by decide +kernel
theorem dX7_yard_31 : decode cX7_yard 31 = .ok (.goto 21, 3) := by decide +kernel
theorem dX7_yard_34 : decode cX7_yard 34 = .ok (.iload_n 2, 1) := by decide +kernel
theorem dX7_yard_35 : decode cX7_yard 35 = .ok (.iconst 1, 1) := by decide +kernel
theorem dX7_yard_36 : decode cX7_yard 36 = .ok (.if_icmp .ne 11, 3) := by decide +kernel
theorem dX7_yard_39 : decode cX7_yard 39 = .ok (.aload_n 0, 1) := by decide +kernel
theorem dX7_yard_40 : decode cX7_yard 40 = .ok (.iload_n 1, 1) := by decide +kernel
theorem dX7_yard_41 : decode cX7_yard 41 = .ok (.invokevirtual 180, 3) := by decide +kernel
theorem dX7_yard_44 : decode cX7_yard 44 = .ok (.goto 8, 3) := by decide +kernel
theorem dX7_yard_47 : decode cX7_yard 47 = .ok (.aload_n 0, 1) := by decide +kernel
theorem dX7_yard_48 : decode cX7_yard 48 = .ok (.iload_n 1, 1) := by decide +kernel
theorem dX7_yard_49 : decode cX7_yard 49 = .ok (.invokevirtual 193, 3) := by decide +kernel
theorem dX7_yard_52 : decode cX7_yard 52 = .ok (.ireturn, 1) := by decide +kernel
theorem dX7_seesIn_0 : decode cX7_seesIn 0 = .ok (.aload_n 0, 1) := by decide +kernel
theorem dX7_seesIn_1 : decode cX7_seesIn 1 = .ok (.getfield 32, 3) := by decide +kernel
theorem dX7_seesIn_4 : decode cX7_seesIn 4 = .ok (.iload_n 1, 1) := by decide +kernel
theorem dX7_seesIn_5 : decode cX7_seesIn 5 = .ok (.iaload, 1) := by decide +kernel
theorem dX7_seesIn_6 : decode cX7_seesIn 6 = .ok (.istore_n 3, 1) := by decide +kernel
theorem dX7_seesIn_7 : decode cX7_seesIn 7 = .ok (.aload_n 0, 1) := by decide +kernel
theorem dX7_seesIn_8 : decode cX7_seesIn 8 = .ok (.getfield 32, 3) := by decide +kernel
theorem dX7_seesIn_11 : decode cX7_seesIn 11 = .ok (.iload_n 1, 1) := by decide +kernel
theorem dX7_seesIn_12 : decode cX7_seesIn 12 = .ok (.iload_n 2, 1) := by decide +kernel
theorem dX7_seesIn_13 : decode cX7_seesIn 13 = .ok (.iastore, 1) := by decide +kernel
theorem dX7_seesIn_14 : decode cX7_seesIn 14 = .ok (.aload_n 0, 1) := by decide +kernel
theorem dX7_seesIn_15 : decode cX7_seesIn 15 = .ok (.iload_n 1, 1) := by decide +kernel
theorem dX7_seesIn_16 : decode cX7_seesIn 16 = .ok (.invokevirtual 186, 3) := by decide +kernel
theorem dX7_seesIn_19 : decode cX7_seesIn 19 = .ok (.istore 4, 2) := by decide +kernel
theorem dX7_seesIn_21 : decode cX7_seesIn 21 = .ok (.aload_n 0, 1) := by decide +kernel
theorem dX7_seesIn_22 : decode cX7_seesIn 22 = .ok (.getfield 32, 3) := by decide +kernel
theorem dX7_seesIn_25 : decode cX7_seesIn 25 = .ok (.iload_n 1, 1) := by decide +kernel
theorem dX7_seesIn_26 : decode cX7_seesIn 26 = .ok (.iload_n 3, 1) := by decide +kernel
theorem dX7_seesIn_27 : decode cX7_seesIn 27 = .ok (.iastore, 1) := by decide +kernel
theorem dX7_seesIn_28 : decode cX7_seesIn 28 = .ok (.iload 4, 2) := by decide +kernel
theorem dX7_seesIn_30 : decode cX7_seesIn 30 = .ok (.ireturn, 1) := by decide +kernel
theorem dX7_worthIn_0 : decode cX7_worthIn 0 = .ok (.aload_n 0, 1) := by decide +kernel
theorem dX7_worthIn_1 : decode cX7_worthIn 1 = .ok (.getfield 23, 3) := by decide +kernel
theorem dX7_worthIn_4 : decode cX7_worthIn 4 = .ok (.iload_n 1, 1) := by decide +kernel
theorem dX7_worthIn_5 : decode cX7_worthIn 5 = .ok (.iaload, 1) := by decide +kernel
theorem dX7_worthIn_6 : decode cX7_worthIn 6 = .ok (.aload_n 0, 1) := by decide +kernel
theorem dX7_worthIn_7 : decode cX7_worthIn 7 = .ok (.iload_n 1, 1) := by decide +kernel
theorem dX7_worthIn_8 : decode cX7_worthIn 8 = .ok (.iload_n 2, 1) := by decide +kernel
theorem dX7_worthIn_9 : decode cX7_worthIn 9 = .ok (.invokevirtual 224, 3) := by decide +kernel
theorem dX7_worthIn_12 : decode cX7_worthIn 12 = .ok (.aload_n 0, 1) := by decide +kernel
theorem dX7_worthIn_13 : decode cX7_worthIn 13 = .ok (.getfield 20, 3) := by decide +kernel
theorem dX7_worthIn_16 : decode cX7_worthIn 16 = .ok (.iload_n 2, 1) := by decide +kernel
theorem dX7_worthIn_17 : decode cX7_worthIn 17 = .ok (.iaload, 1) := by decide +kernel
theorem dX7_worthIn_18 : decode cX7_worthIn 18 = .ok (.invokestatic 189, 3) := by decide +kernel
theorem dX7_worthIn_21 : decode cX7_worthIn 21 = .ok (.ireturn, 1) := by decide +kernel
theorem dX7_sees_0 : decode cX7_sees 0 = .ok (.aload_n 0, 1) := by decide +kernel
theorem dX7_sees_1 : decode cX7_sees 1 = .ok (.iload_n 1, 1) := by decide +kernel
theorem dX7_sees_2 : decode cX7_sees 2 = .ok (.invokevirtual 212, 3) := by decide +kernel
theorem dX7_sees_5 : decode cX7_sees 5 = .ok (.ifCond .eq 13, 3) := by decide +kernel
theorem dX7_sees_8 : decode cX7_sees 8 = .ok (.iload_n 2, 1) := by decide +kernel
theorem dX7_sees_9 : decode cX7_sees 9 = .ok (.iconst (-1), 1) := by decide +kernel
theorem dX7_sees_10 : decode cX7_sees 10 = .ok (.bipush 7, 2) := by decide +kernel
theorem dX7_sees_12 : decode cX7_sees 12 = .ok (.invokestatic 88, 3) := by decide +kernel
theorem dX7_sees_15 : decode cX7_sees 15 = .ok (.ifCond .ne 8, 3) := by decide +kernel
theorem dX7_sees_18 : decode cX7_sees 18 = .ok (.aload_n 0, 1) := by decide +kernel
theorem dX7_sees_19 : decode cX7_sees 19 = .ok (.invokevirtual 96, 3) := by decide +kernel
theorem dX7_sees_22 : decode cX7_sees 22 = .ok (.ireturn, 1) := by decide +kernel
theorem dX7_sees_23 : decode cX7_sees 23 = .ok (.iload_n 2, 1) := by decide +kernel
theorem dX7_sees_24 : decode cX7_sees 24 = .ok (.iconst (-1), 1) := by decide +kernel
theorem dX7_sees_25 : decode cX7_sees 25 = .ok (.if_icmp .ne 9, 3) := by decide +kernel
theorem dX7_sees_28 : decode cX7_sees 28 = .ok (.aload_n 0, 1) := by decide +kernel
theorem dX7_sees_29 : decode cX7_sees 29 = .ok (.iload_n 1, 1) := by decide +kernel
theorem dX7_sees_30 : decode cX7_sees 30 = .ok (.invokevirtual 186, 3) := by decide +kernel
theorem dX7_sees_33 : decode cX7_sees 33 = .ok (.ireturn, 1) := by decide +kernel
theorem dX7_sees_34 : decode cX7_sees 34 = .ok (.aload_n 0, 1) := by decide +kernel
theorem dX7_sees_35 : decode cX7_sees 35 = .ok (.iload_n 1, 1) := by decide +kernel
theorem dX7_sees_36 : decode cX7_sees 36 = .ok (.iload_n 2, 1) := by decide +kernel
theorem dX7_sees_37 : decode cX7_sees 37 = .ok (.invokevirtual 227, 3) := by decide +kernel
theorem dX7_sees_40 : decode cX7_sees 40 = .ok (.ifCond .eq 12, 3) := by decide +kernel
theorem dX7_sees_43 : decode cX7_sees 43 = .ok (.aload_n 0, 1) := by decide +kernel
theorem dX7_sees_44 : decode cX7_sees 44 = .ok (.iload_n 1, 1) := by decide +kernel
theorem dX7_sees_45 : decode cX7_sees 45 = .ok (.iload_n 2, 1) := by decide +kernel
theorem dX7_sees_46 : decode cX7_sees 46 = .ok (.invokevirtual 224, 3) := by decide +kernel
theorem dX7_sees_49 : decode cX7_sees 49 = .ok (.goto 7, 3) := by decide +kernel
theorem dX7_sees_52 : decode cX7_sees 52 = .ok (.aload_n 0, 1) := by decide +kernel
theorem dX7_sees_53 : decode cX7_sees 53 = .ok (.invokevirtual 203, 3) := by decide +kernel
theorem dX7_sees_56 : decode cX7_sees 56 = .ok (.ireturn, 1) := by decide +kernel
theorem dX7_gives_0 : decode cX7_gives 0 = .ok (.aload_n 0, 1) := by decide +kernel
theorem dX7_gives_1 : decode cX7_gives 1 = .ok (.iload_n 1, 1) := by decide +kernel
theorem dX7_gives_2 : decode cX7_gives 2 = .ok (.invokevirtual 212, 3) := by decide +kernel
theorem dX7_gives_5 : decode cX7_gives 5 = .ok (.ifCond .eq 13, 3) := by decide +kernel
theorem dX7_gives_8 : decode cX7_gives 8 = .ok (.iload_n 2, 1) := by decide +kernel
theorem dX7_gives_9 : decode cX7_gives 9 = .ok (.iconst (-1), 1) := by decide +kernel
theorem dX7_gives_10 : decode cX7_gives 10 = .ok (.bipush 7, 2) := by decide +kernel
theorem dX7_gives_12 : decode cX7_gives 12 = .ok (.invokestatic 88, 3) := by decide +kernel
theorem dX7_gives_15 : decode cX7_gives 15 = .ok (.ifCond .ne 8, 3) := by decide +kernel
theorem dX7_gives_18 : decode cX7_gives 18 = .ok (.aload_n 0, 1) := by decide +kernel
theorem dX7_gives_19 : decode cX7_gives 19 = .ok (.invokevirtual 96, 3) := by decide +kernel
theorem dX7_gives_22 : decode cX7_gives 22 = .ok (.ireturn, 1) := by decide +kernel
theorem dX7_gives_23 : decode cX7_gives 23 = .ok (.iload_n 2, 1) := by decide +kernel
theorem dX7_gives_24 : decode cX7_gives 24 = .ok (.iconst (-1), 1) := by decide +kernel
theorem dX7_gives_25 : decode cX7_gives 25 = .ok (.if_icmp .ne 18, 3) := by decide +kernel
theorem dX7_gives_28 : decode cX7_gives 28 = .ok (.aload_n 0, 1) := by decide +kernel
theorem dX7_gives_29 : decode cX7_gives 29 = .ok (.getfield 26, 3) := by decide +kernel
theorem dX7_gives_32 : decode cX7_gives 32 = .ok (.iload_n 1, 1) := by decide +kernel
theorem dX7_gives_33 : decode cX7_gives 33 = .ok (.iaload, 1) := by decide +kernel
theorem dX7_gives_34 : decode cX7_gives 34 = .ok (.aload_n 0, 1) := by decide +kernel
theorem dX7_gives_35 : decode cX7_gives 35 = .ok (.iload_n 1, 1) := by decide +kernel
theorem dX7_gives_36 : decode cX7_gives 36 = .ok (.invokevirtual 230, 3) := by decide +kernel
theorem dX7_gives_39 : decode cX7_gives 39 = .ok (.invokestatic 233, 3) := by decide +kernel
theorem dX7_gives_42 : decode cX7_gives 42 = .ok (.ireturn, 1) := by decide +kernel
theorem dX7_gives_43 : decode cX7_gives 43 = .ok (.aload_n 0, 1) := by decide +kernel
theorem dX7_gives_44 : decode cX7_gives 44 = .ok (.iload_n 1, 1) := by decide +kernel
theorem dX7_gives_45 : decode cX7_gives 45 = .ok (.iload_n 2, 1) := by decide +kernel
theorem dX7_gives_46 : decode cX7_gives 46 = .ok (.invokevirtual 227, 3) := by decide +kernel
theorem dX7_gives_49 : decode cX7_gives 49 = .ok (.ifCond .eq 21, 3) := by decide +kernel
theorem dX7_gives_52 : decode cX7_gives 52 = .ok (.aload_n 0, 1) := by decide +kernel
theorem dX7_gives_53 : decode cX7_gives 53 = .ok (.getfield 26, 3) := by decide +kernel
theorem dX7_gives_56 : decode cX7_gives 56 = .ok (.iload_n 1, 1) := by decide +kernel
theorem dX7_gives_57 : decode cX7_gives 57 = .ok (.iaload, 1) := by decide +kernel
theorem dX7_gives_58 : decode cX7_gives 58 = .ok (.aload_n 0, 1) := by decide +kernel
theorem dX7_gives_59 : decode cX7_gives 59 = .ok (.iload_n 1, 1) := by decide +kernel
theorem dX7_gives_60 : decode cX7_gives 60 = .ok (.iload_n 2, 1) := by decide +kernel
theorem dX7_gives_61 : decode cX7_gives 61 = .ok (.invokevirtual 236, 3) := by decide +kernel
theorem dX7_gives_64 : decode cX7_gives 64 = .ok (.invokestatic 233, 3) := by decide +kernel
theorem dX7_gives_67 : decode cX7_gives 67 = .ok (.goto 7, 3) := by decide +kernel
theorem dX7_gives_70 : decode cX7_gives 70 = .ok (.aload_n 0, 1) := by decide +kernel
theorem dX7_gives_71 : decode cX7_gives 71 = .ok (.invokevirtual 203, 3) := by decide +kernel
theorem dX7_gives_74 : decode cX7_gives 74 = .ok (.ireturn, 1) := by decide +kernel
theorem dX7_bidOf_0 : decode cX7_bidOf 0 = .ok (.aload_n 0, 1) := by decide +kernel
theorem dX7_bidOf_1 : decode cX7_bidOf 1 = .ok (.getfield 32, 3) := by decide +kernel
theorem dX7_bidOf_4 : decode cX7_bidOf 4 = .ok (.iload_n 1, 1) := by decide +kernel
theorem dX7_bidOf_5 : decode cX7_bidOf 5 = .ok (.iaload, 1) := by decide +kernel
theorem dX7_bidOf_6 : decode cX7_bidOf 6 = .ok (.iconst (-1), 1) := by decide +kernel
theorem dX7_bidOf_7 : decode cX7_bidOf 7 = .ok (.if_icmp .ne 21, 3) := by decide +kernel
theorem dX7_bidOf_10 : decode cX7_bidOf 10 = .ok (.aload_n 0, 1) := by decide +kernel
theorem dX7_bidOf_11 : decode cX7_bidOf 11 = .ok (.getfield 26, 3) := by decide +kernel
theorem dX7_bidOf_14 : decode cX7_bidOf 14 = .ok (.iload_n 1, 1) := by decide +kernel
theorem dX7_bidOf_15 : decode cX7_bidOf 15 = .ok (.iaload, 1) := by decide +kernel
theorem dX7_bidOf_16 : decode cX7_bidOf 16 = .ok (.aload_n 0, 1) := by decide +kernel
theorem dX7_bidOf_17 : decode cX7_bidOf 17 = .ok (.iload_n 1, 1) := by decide +kernel
theorem dX7_bidOf_18 : decode cX7_bidOf 18 = .ok (.iload_n 2, 1) := by decide +kernel
theorem dX7_bidOf_19 : decode cX7_bidOf 19 = .ok (.invokevirtual 236, 3) := by decide +kernel
theorem dX7_bidOf_22 : decode cX7_bidOf 22 = .ok (.invokestatic 233, 3) := by decide +kernel
theorem dX7_bidOf_25 : decode cX7_bidOf 25 = .ok (.goto 4, 3) := by decide +kernel
theorem dX7_bidOf_28 : decode cX7_bidOf 28 = .ok (.iconst 0, 1) := by decide +kernel
theorem dX7_bidOf_29 : decode cX7_bidOf 29 = .ok (.ireturn, 1) := by decide +kernel
theorem dX7_winner_0 : decode cX7_winner 0 = .ok (.iconst (-1), 1) := by decide +kernel
theorem dX7_winner_1 : decode cX7_winner 1 = .ok (.istore_n 2, 1) := by decide +kernel
theorem dX7_winner_2 : decode cX7_winner 2 = .ok (.iconst 0, 1) := by decide +kernel
theorem dX7_winner_3 : decode cX7_winner 3 = .ok (.istore_n 3, 1) := by decide +kernel
theorem dX7_winner_4 : decode cX7_winner 4 = .ok (.iconst 0, 1) := by decide +kernel
theorem dX7_winner_5 : decode cX7_winner 5 = .ok (.istore 4, 2) := by decide +kernel
theorem dX7_winner_7 : decode cX7_winner 7 = .ok (.iload 4, 2) := by decide +kernel
theorem dX7_winner_9 : decode cX7_winner 9 = .ok (.aload_n 0, 1) := by decide +kernel
theorem dX7_winner_10 : decode cX7_winner 10 = .ok (.getfield 79, 3) := by decide +kernel
theorem dX7_winner_13 : decode cX7_winner 13 = .ok (.if_icmp .ge 44, 3) := by decide +kernel
theorem dX7_winner_16 : decode cX7_winner 16 = .ok (.aload_n 0, 1) := by decide +kernel
theorem dX7_winner_17 : decode cX7_winner 17 = .ok (.iload 4, 2) := by decide +kernel
theorem dX7_winner_19 : decode cX7_winner 19 = .ok (.iload_n 1, 1) := by decide +kernel
theorem dX7_winner_20 : decode cX7_winner 20 = .ok (.invokevirtual 239, 3) := by decide +kernel
theorem dX7_winner_23 : decode cX7_winner 23 = .ok (.istore 5, 2) := by decide +kernel
theorem dX7_winner_25 : decode cX7_winner 25 = .ok (.iload 5, 2) := by decide +kernel
theorem dX7_winner_27 : decode cX7_winner 27 = .ok (.iload_n 3, 1) := by decide +kernel
theorem dX7_winner_28 : decode cX7_winner 28 = .ok (.if_icmp .le 8, 3) := by decide +kernel
theorem dX7_winner_31 : decode cX7_winner 31 = .ok (.iload 4, 2) := by decide +kernel
theorem dX7_winner_33 : decode cX7_winner 33 = .ok (.goto 4, 3) := by decide +kernel
theorem dX7_winner_36 : decode cX7_winner 36 = .ok (.iload_n 2, 1) := by decide +kernel
theorem dX7_winner_37 : decode cX7_winner 37 = .ok (.istore_n 2, 1) := by decide +kernel
theorem dX7_winner_38 : decode cX7_winner 38 = .ok (.iload 5, 2) := by decide +kernel
theorem dX7_winner_40 : decode cX7_winner 40 = .ok (.iload_n 3, 1) := by decide +kernel
theorem dX7_winner_41 : decode cX7_winner 41 = .ok (.if_icmp .le 8, 3) := by decide +kernel
theorem dX7_winner_44 : decode cX7_winner 44 = .ok (.iload 5, 2) := by decide +kernel
theorem dX7_winner_46 : decode cX7_winner 46 = .ok (.goto 4, 3) := by decide +kernel
theorem dX7_winner_49 : decode cX7_winner 49 = .ok (.iload_n 3, 1) := by decide +kernel
theorem dX7_winner_50 : decode cX7_winner 50 = .ok (.istore_n 3, 1) := by decide +kernel
theorem dX7_winner_51 : decode cX7_winner 51 = .ok (.iinc 4 1, 3) := by decide +kernel
theorem dX7_winner_54 : decode cX7_winner 54 = .ok (.goto (-47), 3) := by decide +kernel
theorem dX7_winner_57 : decode cX7_winner 57 = .ok (.iload_n 2, 1) := by decide +kernel
theorem dX7_winner_58 : decode cX7_winner 58 = .ok (.ireturn, 1) := by decide +kernel
theorem dX7_priceOf_0 : decode cX7_priceOf 0 = .ok (.iconst 0, 1) := by decide +kernel
theorem dX7_priceOf_1 : decode cX7_priceOf 1 = .ok (.istore_n 3, 1) := by decide +kernel
theorem dX7_priceOf_2 : decode cX7_priceOf 2 = .ok (.iconst 0, 1) := by decide +kernel
theorem dX7_priceOf_3 : decode cX7_priceOf 3 = .ok (.istore 4, 2) := by decide +kernel
theorem dX7_priceOf_5 : decode cX7_priceOf 5 = .ok (.iload 4, 2) := by decide +kernel
theorem dX7_priceOf_7 : decode cX7_priceOf 7 = .ok (.aload_n 0, 1) := by decide +kernel
theorem dX7_priceOf_8 : decode cX7_priceOf 8 = .ok (.getfield 79, 3) := by decide +kernel
theorem dX7_priceOf_11 : decode cX7_priceOf 11 = .ok (.if_icmp .ge 41, 3) := by decide +kernel
theorem dX7_priceOf_14 : decode cX7_priceOf 14 = .ok (.iload 4, 2) := by decide +kernel
theorem dX7_priceOf_16 : decode cX7_priceOf 16 = .ok (.iload_n 1, 1) := by decide +kernel
theorem dX7_priceOf_17 : decode cX7_priceOf 17 = .ok (.if_icmp .ne 7, 3) := by decide +kernel
theorem dX7_priceOf_20 : decode cX7_priceOf 20 = .ok (.iconst 0, 1) := by decide +kernel
theorem dX7_priceOf_21 : decode cX7_priceOf 21 = .ok (.goto 10, 3) := by decide +kernel
theorem dX7_priceOf_24 : decode cX7_priceOf 24 = .ok (.aload_n 0, 1) := by decide +kernel
theorem dX7_priceOf_25 : decode cX7_priceOf 25 = .ok (.iload 4, 2) := by decide +kernel
theorem dX7_priceOf_27 : decode cX7_priceOf 27 = .ok (.iload_n 2, 1) := by decide +kernel
theorem dX7_priceOf_28 : decode cX7_priceOf 28 = .ok (.invokevirtual 239, 3) := by decide +kernel
theorem dX7_priceOf_31 : decode cX7_priceOf 31 = .ok (.istore 5, 2) := by decide +kernel
theorem dX7_priceOf_33 : decode cX7_priceOf 33 = .ok (.iload 5, 2) := by decide +kernel
theorem dX7_priceOf_35 : decode cX7_priceOf 35 = .ok (.iload_n 3, 1) := by decide +kernel
theorem dX7_priceOf_36 : decode cX7_priceOf 36 = .ok (.if_icmp .le 8, 3) := by decide +kernel
theorem dX7_priceOf_39 : decode cX7_priceOf 39 = .ok (.iload 5, 2) := by decide +kernel
theorem dX7_priceOf_41 : decode cX7_priceOf 41 = .ok (.goto 4, 3) := by decide +kernel
theorem dX7_priceOf_44 : decode cX7_priceOf 44 = .ok (.iload_n 3, 1) := by decide +kernel
theorem dX7_priceOf_45 : decode cX7_priceOf 45 = .ok (.istore_n 3, 1) := by decide +kernel
theorem dX7_priceOf_46 : decode cX7_priceOf 46 = .ok (.iinc 4 1, 3) := by decide +kernel
theorem dX7_priceOf_49 : decode cX7_priceOf 49 = .ok (.goto (-44), 3) := by decide +kernel
theorem dX7_priceOf_52 : decode cX7_priceOf 52 = .ok (.iload_n 3, 1) := by decide +kernel
theorem dX7_priceOf_53 : decode cX7_priceOf 53 = .ok (.ireturn, 1) := by decide +kernel
theorem dX7_auction_0 : decode cX7_auction 0 = .ok (.iload_n 1, 1) := by decide +kernel
theorem dX7_auction_1 : decode cX7_auction 1 = .ok (.invokestatic 92, 3) := by decide +kernel
theorem dX7_auction_4 : decode cX7_auction 4 = .ok (.ifCond .eq 12, 3) := by decide +kernel
theorem dX7_auction_7 : decode cX7_auction 7 = .ok (.iload_n 2, 1) := by decide +kernel
theorem dX7_auction_8 : decode cX7_auction 8 = .ok (.iconst 0, 1) := by decide +kernel
theorem dX7_auction_9 : decode cX7_auction 9 = .ok (.iconst 1, 1) := by decide +kernel
theorem dX7_auction_10 : decode cX7_auction 10 = .ok (.invokestatic 88, 3) := by decide +kernel
theorem dX7_auction_13 : decode cX7_auction 13 = .ok (.ifCond .ne 8, 3) := by decide +kernel
theorem dX7_auction_16 : decode cX7_auction 16 = .ok (.aload_n 0, 1) := by decide +kernel
theorem dX7_auction_17 : decode cX7_auction 17 = .ok (.invokevirtual 96, 3) := by decide +kernel
theorem dX7_auction_20 : decode cX7_auction 20 = .ok (.ireturn, 1) := by decide +kernel
theorem dX7_auction_21 : decode cX7_auction 21 = .ok (.aload_n 0, 1) := by decide +kernel
theorem dX7_auction_22 : decode cX7_auction 22 = .ok (.iload_n 1, 1) := by decide +kernel
theorem dX7_auction_23 : decode cX7_auction 23 = .ok (.invokevirtual 193, 3) := by decide +kernel
theorem dX7_auction_26 : decode cX7_auction 26 = .ok (.iconst (-1), 1) := by decide +kernel
theorem dX7_auction_27 : decode cX7_auction 27 = .ok (.if_icmp .eq 8, 3) := by decide +kernel
theorem dX7_auction_30 : decode cX7_auction 30 = .ok (.aload_n 0, 1) := by decide +kernel
theorem dX7_auction_31 : decode cX7_auction 31 = .ok (.invokevirtual 203, 3) := by decide +kernel
theorem dX7_auction_34 : decode cX7_auction 34 = .ok (.ireturn, 1) := by decide +kernel
theorem dX7_auction_35 : decode cX7_auction 35 = .ok (.aload_n 0, 1) := by decide +kernel
theorem dX7_auction_36 : decode cX7_auction 36 = .ok (.iload_n 1, 1) := by decide +kernel
theorem dX7_auction_37 : decode cX7_auction 37 = .ok (.invokevirtual 200, 3) := by decide +kernel
theorem dX7_auction_40 : decode cX7_auction 40 = .ok (.istore_n 3, 1) := by decide +kernel
theorem dX7_auction_41 : decode cX7_auction 41 = .ok (.iload_n 3, 1) := by decide +kernel
theorem dX7_auction_42 : decode cX7_auction 42 = .ok (.iconst (-1), 1) := by decide +kernel
theorem dX7_auction_43 : decode cX7_auction 43 = .ok (.if_icmp .eq 7, 3) := by decide +kernel
theorem dX7_auction_46 : decode cX7_auction 46 = .ok (.iload_n 2, 1) := by decide +kernel
theorem dX7_auction_47 : decode cX7_auction 47 = .ok (.ifCond .ne 7, 3) := by decide +kernel
theorem dX7_auction_50 : decode cX7_auction 50 = .ok (.iload_n 3, 1) := by decide +kernel
theorem dX7_auction_51 : decode cX7_auction 51 = .ok (.goto 9, 3) := by decide +kernel
theorem dX7_auction_54 : decode cX7_auction 54 = .ok (.aload_n 0, 1) := by decide +kernel
theorem dX7_auction_55 : decode cX7_auction 55 = .ok (.iload_n 3, 1) := by decide +kernel
theorem dX7_auction_56 : decode cX7_auction 56 = .ok (.iload_n 1, 1) := by decide +kernel
theorem dX7_auction_57 : decode cX7_auction 57 = .ok (.invokevirtual 206, 3) := by decide +kernel
theorem dX7_auction_60 : decode cX7_auction 60 = .ok (.ireturn, 1) := by decide +kernel
theorem dX7_hurtIn_0 : decode cX7_hurtIn 0 = .ok (.aload_n 0, 1) := by decide +kernel
theorem dX7_hurtIn_1 : decode cX7_hurtIn 1 = .ok (.getfield 32, 3) := by decide +kernel
theorem dX7_hurtIn_4 : decode cX7_hurtIn 4 = .ok (.iload_n 1, 1) := by decide +kernel
theorem dX7_hurtIn_5 : decode cX7_hurtIn 5 = .ok (.iaload, 1) := by decide +kernel
theorem dX7_hurtIn_6 : decode cX7_hurtIn 6 = .ok (.istore_n 3, 1) := by decide +kernel
theorem dX7_hurtIn_7 : decode cX7_hurtIn 7 = .ok (.aload_n 0, 1) := by decide +kernel
theorem dX7_hurtIn_8 : decode cX7_hurtIn 8 = .ok (.getfield 32, 3) := by decide +kernel
theorem dX7_hurtIn_11 : decode cX7_hurtIn 11 = .ok (.iload_n 1, 1) := by decide +kernel
theorem dX7_hurtIn_12 : decode cX7_hurtIn 12 = .ok (.iconst (-1), 1) := by decide +kernel
theorem dX7_hurtIn_13 : decode cX7_hurtIn 13 = .ok (.iastore, 1) := by decide +kernel
theorem dX7_hurtIn_14 : decode cX7_hurtIn 14 = .ok (.aload_n 0, 1) := by decide +kernel
theorem dX7_hurtIn_15 : decode cX7_hurtIn 15 = .ok (.iload_n 1, 1) := by decide +kernel
theorem dX7_hurtIn_16 : decode cX7_hurtIn 16 = .ok (.invokevirtual 242, 3) := by decide +kernel
theorem dX7_hurtIn_19 : decode cX7_hurtIn 19 = .ok (.istore 4, 2) := by decide +kernel
theorem dX7_hurtIn_21 : decode cX7_hurtIn 21 = .ok (.aload_n 0, 1) := by decide +kernel
theorem dX7_hurtIn_22 : decode cX7_hurtIn 22 = .ok (.getfield 32, 3) := by decide +kernel
theorem dX7_hurtIn_25 : decode cX7_hurtIn 25 = .ok (.iload_n 1, 1) := by decide +kernel
theorem dX7_hurtIn_26 : decode cX7_hurtIn 26 = .ok (.iload_n 2, 1) := by decide +kernel
theorem dX7_hurtIn_27 : decode cX7_hurtIn 27 = .ok (.iastore, 1) := by decide +kernel
theorem dX7_hurtIn_28 : decode cX7_hurtIn 28 = .ok (.aload_n 0, 1) := by decide +kernel
theorem dX7_hurtIn_29 : decode cX7_hurtIn 29 = .ok (.iload_n 1, 1) := by decide +kernel
theorem dX7_hurtIn_30 : decode cX7_hurtIn 30 = .ok (.invokevirtual 242, 3) := by decide +kernel
theorem dX7_hurtIn_33 : decode cX7_hurtIn 33 = .ok (.istore 5, 2) := by decide +kernel
theorem dX7_hurtIn_35 : decode cX7_hurtIn 35 = .ok (.aload_n 0, 1) := by decide +kernel
theorem dX7_hurtIn_36 : decode cX7_hurtIn 36 = .ok (.getfield 32, 3) := by decide +kernel
theorem dX7_hurtIn_39 : decode cX7_hurtIn 39 = .ok (.iload_n 1, 1) := by decide +kernel
theorem dX7_hurtIn_40 : decode cX7_hurtIn 40 = .ok (.iload_n 3, 1) := by decide +kernel
theorem dX7_hurtIn_41 : decode cX7_hurtIn 41 = .ok (.iastore, 1) := by decide +kernel
theorem dX7_hurtIn_42 : decode cX7_hurtIn 42 = .ok (.iload 4, 2) := by decide +kernel
theorem dX7_hurtIn_44 : decode cX7_hurtIn 44 = .ok (.iload 5, 2) := by decide +kernel
theorem dX7_hurtIn_46 : decode cX7_hurtIn 46 = .ok (.isub, 1) := by decide +kernel
theorem dX7_hurtIn_47 : decode cX7_hurtIn 47 = .ok (.ireturn, 1) := by decide +kernel
theorem dX7_hurt_0 : decode cX7_hurt 0 = .ok (.aload_n 0, 1) := by decide +kernel
theorem dX7_hurt_1 : decode cX7_hurt 1 = .ok (.iload_n 1, 1) := by decide +kernel
theorem dX7_hurt_2 : decode cX7_hurt 2 = .ok (.invokevirtual 212, 3) := by decide +kernel
theorem dX7_hurt_5 : decode cX7_hurt 5 = .ok (.ifCond .eq 10, 3) := by decide +kernel
theorem dX7_hurt_8 : decode cX7_hurt 8 = .ok (.iload_n 2, 1) := by decide +kernel
theorem dX7_hurt_9 : decode cX7_hurt 9 = .ok (.invokestatic 92, 3) := by decide +kernel
theorem dX7_hurt_12 : decode cX7_hurt 12 = .ok (.ifCond .ne 8, 3) := by decide +kernel
theorem dX7_hurt_15 : decode cX7_hurt 15 = .ok (.aload_n 0, 1) := by decide +kernel
theorem dX7_hurt_16 : decode cX7_hurt 16 = .ok (.invokevirtual 96, 3) := by decide +kernel
theorem dX7_hurt_19 : decode cX7_hurt 19 = .ok (.ireturn, 1) := by decide +kernel
theorem dX7_hurt_20 : decode cX7_hurt 20 = .ok (.aload_n 0, 1) := by decide +kernel
theorem dX7_hurt_21 : decode cX7_hurt 21 = .ok (.iload_n 1, 1) := by decide +kernel
theorem dX7_hurt_22 : decode cX7_hurt 22 = .ok (.iload_n 2, 1) := by decide +kernel
theorem dX7_hurt_23 : decode cX7_hurt 23 = .ok (.invokevirtual 227, 3) := by decide +kernel
theorem dX7_hurt_26 : decode cX7_hurt 26 = .ok (.ifCond .eq 12, 3) := by decide +kernel
theorem dX7_hurt_29 : decode cX7_hurt 29 = .ok (.aload_n 0, 1) := by decide +kernel
theorem dX7_hurt_30 : decode cX7_hurt 30 = .ok (.iload_n 1, 1) := by decide +kernel
theorem dX7_hurt_31 : decode cX7_hurt 31 = .ok (.iload_n 2, 1) := by decide +kernel
theorem dX7_hurt_32 : decode cX7_hurt 32 = .ok (.invokevirtual 245, 3) := by decide +kernel
theorem dX7_hurt_35 : decode cX7_hurt 35 = .ok (.goto 7, 3) := by decide +kernel
theorem dX7_hurt_38 : decode cX7_hurt 38 = .ok (.aload_n 0, 1) := by decide +kernel
theorem dX7_hurt_39 : decode cX7_hurt 39 = .ok (.invokevirtual 203, 3) := by decide +kernel
theorem dX7_hurt_42 : decode cX7_hurt 42 = .ok (.ireturn, 1) := by decide +kernel
theorem dX7_best_0 : decode cX7_best 0 = .ok (.aload_n 0, 1) := by decide +kernel
theorem dX7_best_1 : decode cX7_best 1 = .ok (.iload_n 1, 1) := by decide +kernel
theorem dX7_best_2 : decode cX7_best 2 = .ok (.invokevirtual 212, 3) := by decide +kernel
theorem dX7_best_5 : decode cX7_best 5 = .ok (.ifCond .eq 12, 3) := by decide +kernel
theorem dX7_best_8 : decode cX7_best 8 = .ok (.iload_n 2, 1) := by decide +kernel
theorem dX7_best_9 : decode cX7_best 9 = .ok (.iconst 0, 1) := by decide +kernel
theorem dX7_best_10 : decode cX7_best 10 = .ok (.iconst 1, 1) := by decide +kernel
theorem dX7_best_11 : decode cX7_best 11 = .ok (.invokestatic 88, 3) := by decide +kernel
theorem dX7_best_14 : decode cX7_best 14 = .ok (.ifCond .ne 17, 3) := by decide +kernel
theorem dX7_best_17 : decode cX7_best 17 = .ok (.aload_n 0, 1) := by decide +kernel
theorem dX7_best_18 : decode cX7_best 18 = .ok (.getfield 1, 3) := by decide +kernel
theorem dX7_best_21 : decode cX7_best 21 = .ok (.iconst 0, 1) := by decide +kernel
theorem dX7_best_22 : decode cX7_best 22 = .ok (.dup2, 1) := by decide +kernel
theorem dX7_best_23 : decode cX7_best 23 = .ok (.iaload, 1) := by decide +kernel
theorem dX7_best_24 : decode cX7_best 24 = .ok (.iconst 1, 1) := by decide +kernel
theorem dX7_best_25 : decode cX7_best 25 = .ok (.iadd, 1) := by decide +kernel
theorem dX7_best_26 : decode cX7_best 26 = .ok (.iastore, 1) := by decide +kernel
theorem dX7_best_27 : decode cX7_best 27 = .ok (.sipush (-10000), 3) := by decide +kernel
theorem dX7_best_30 : decode cX7_best 30 = .ok (.ireturn, 1) := by decide +kernel
theorem dX7_best_31 : decode cX7_best 31 = .ok (.iconst (-1), 1) := by decide +kernel
theorem dX7_best_32 : decode cX7_best 32 = .ok (.istore_n 3, 1) := by decide +kernel
theorem dX7_best_33 : decode cX7_best 33 = .ok (.sipush (-10000), 3) := by decide +kernel
theorem dX7_best_36 : decode cX7_best 36 = .ok (.istore 4, 2) := by decide +kernel
theorem dX7_best_38 : decode cX7_best 38 = .ok (.iconst 0, 1) := by decide +kernel
theorem dX7_best_39 : decode cX7_best 39 = .ok (.istore 5, 2) := by decide +kernel
theorem dX7_best_41 : decode cX7_best 41 = .ok (.iload 5, 2) := by decide +kernel
theorem dX7_best_43 : decode cX7_best 43 = .ok (.bipush 8, 2) := by decide +kernel
theorem dX7_best_45 : decode cX7_best 45 = .ok (.if_icmp .ge 66, 3) := by decide +kernel
theorem dX7_best_48 : decode cX7_best 48 = .ok (.aload_n 0, 1) := by decide +kernel
theorem dX7_best_49 : decode cX7_best 49 = .ok (.iload_n 1, 1) := by decide +kernel
theorem dX7_best_50 : decode cX7_best 50 = .ok (.iload 5, 2) := by decide +kernel
theorem dX7_best_52 : decode cX7_best 52 = .ok (.invokevirtual 227, 3) := by decide +kernel
theorem dX7_best_55 : decode cX7_best 55 = .ok (.ifCond .eq 50, 3) := by decide +kernel
theorem dX7_best_58 : decode cX7_best 58 = .ok (.aload_n 0, 1) := by decide +kernel
theorem dX7_best_59 : decode cX7_best 59 = .ok (.iload_n 1, 1) := by decide +kernel
theorem dX7_best_60 : decode cX7_best 60 = .ok (.iload 5, 2) := by decide +kernel
theorem dX7_best_62 : decode cX7_best 62 = .ok (.invokevirtual 236, 3) := by decide +kernel
theorem dX7_best_65 : decode cX7_best 65 = .ok (.aload_n 0, 1) := by decide +kernel
theorem dX7_best_66 : decode cX7_best 66 = .ok (.iload_n 1, 1) := by decide +kernel
theorem dX7_best_67 : decode cX7_best 67 = .ok (.iload 5, 2) := by decide +kernel
theorem dX7_best_69 : decode cX7_best 69 = .ok (.invokevirtual 245, 3) := by decide +kernel
theorem dX7_best_72 : decode cX7_best 72 = .ok (.isub, 1) := by decide +kernel
theorem dX7_best_73 : decode cX7_best 73 = .ok (.istore 6, 2) := by decide +kernel
theorem dX7_best_75 : decode cX7_best 75 = .ok (.iload 6, 2) := by decide +kernel
theorem dX7_best_77 : decode cX7_best 77 = .ok (.iload 4, 2) := by decide +kernel
theorem dX7_best_79 : decode cX7_best 79 = .ok (.if_icmp .le 8, 3) := by decide +kernel
theorem dX7_best_82 : decode cX7_best 82 = .ok (.iload 5, 2) := by decide +kernel
theorem dX7_best_84 : decode cX7_best 84 = .ok (.goto 4, 3) := by decide +kernel
theorem dX7_best_87 : decode cX7_best 87 = .ok (.iload_n 3, 1) := by decide +kernel
theorem dX7_best_88 : decode cX7_best 88 = .ok (.istore_n 3, 1) := by decide +kernel
theorem dX7_best_89 : decode cX7_best 89 = .ok (.iload 6, 2) := by decide +kernel
theorem dX7_best_91 : decode cX7_best 91 = .ok (.iload 4, 2) := by decide +kernel
theorem dX7_best_93 : decode cX7_best 93 = .ok (.if_icmp .le 8, 3) := by decide +kernel
theorem dX7_best_96 : decode cX7_best 96 = .ok (.iload 6, 2) := by decide +kernel
theorem dX7_best_98 : decode cX7_best 98 = .ok (.goto 5, 3) := by decide +kernel
theorem dX7_best_101 : decode cX7_best 101 = .ok (.iload 4, 2) := by decide +kernel
theorem dX7_best_103 : decode cX7_best 103 = .ok (.istore 4, 2) := by decide +kernel
theorem dX7_best_105 : decode cX7_best 105 = .ok (.iinc 5 1, 3) := by decide +kernel
theorem dX7_best_108 : decode cX7_best 108 = .ok (.goto (-67), 3) := by decide +kernel
theorem dX7_best_111 : decode cX7_best 111 = .ok (.iload_n 2, 1) := by decide +kernel
theorem dX7_best_112 : decode cX7_best 112 = .ok (.ifCond .ne 7, 3) := by decide +kernel
theorem dX7_best_115 : decode cX7_best 115 = .ok (.iload_n 3, 1) := by decide +kernel
theorem dX7_best_116 : decode cX7_best 116 = .ok (.goto 5, 3) := by decide +kernel
theorem dX7_best_119 : decode cX7_best 119 = .ok (.iload 4, 2) := by decide +kernel
theorem dX7_best_121 : decode cX7_best 121 = .ok (.ireturn, 1) := by decide +kernel
theorem dX7_seatBy_0 : decode cX7_seatBy 0 = .ok (.iload_n 1, 1) := by decide +kernel
theorem dX7_seatBy_1 : decode cX7_seatBy 1 = .ok (.istore_n 2, 1) := by decide +kernel
theorem dX7_seatBy_2 : decode cX7_seatBy 2 = .ok (.iconst 0, 1) := by decide +kernel
theorem dX7_seatBy_3 : decode cX7_seatBy 3 = .ok (.istore_n 3, 1) := by decide +kernel
theorem dX7_seatBy_4 : decode cX7_seatBy 4 = .ok (.aload_n 0, 1) := by decide +kernel
theorem dX7_seatBy_5 : decode cX7_seatBy 5 = .ok (.getfield 79, 3) := by decide +kernel
theorem dX7_seatBy_8 : decode cX7_seatBy 8 = .ok (.iconst 1, 1) := by decide +kernel
theorem dX7_seatBy_9 : decode cX7_seatBy 9 = .ok (.isub, 1) := by decide +kernel
theorem dX7_seatBy_10 : decode cX7_seatBy 10 = .ok (.istore 4, 2) := by decide +kernel
theorem dX7_seatBy_12 : decode cX7_seatBy 12 = .ok (.iload 4, 2) := by decide +kernel
theorem dX7_seatBy_14 : decode cX7_seatBy 14 = .ok (.ifCond .lt 53, 3) := by decide +kernel
theorem dX7_seatBy_17 : decode cX7_seatBy 17 = .ok (.aload_n 0, 1) := by decide +kernel
theorem dX7_seatBy_18 : decode cX7_seatBy 18 = .ok (.getfield 32, 3) := by decide +kernel
theorem dX7_seatBy_21 : decode cX7_seatBy 21 = .ok (.iload 4, 2) := by decide +kernel
theorem dX7_seatBy_23 : decode cX7_seatBy 23 = .ok (.iload_n 2, 1) := by decide +kernel
theorem dX7_seatBy_24 : decode cX7_seatBy 24 = .ok (.bipush 8, 2) := by decide +kernel
theorem dX7_seatBy_26 : decode cX7_seatBy 26 = .ok (.irem, 1) := by decide +kernel
theorem dX7_seatBy_27 : decode cX7_seatBy 27 = .ok (.iastore, 1) := by decide +kernel
theorem dX7_seatBy_28 : decode cX7_seatBy 28 = .ok (.iload_n 2, 1) := by decide +kernel
theorem dX7_seatBy_29 : decode cX7_seatBy 29 = .ok (.bipush 8, 2) := by decide +kernel
theorem dX7_seatBy_31 : decode cX7_seatBy 31 = .ok (.idiv, 1) := by decide +kernel
theorem dX7_seatBy_32 : decode cX7_seatBy 32 = .ok (.istore_n 2, 1) := by decide +kernel
theorem dX7_seatBy_33 : decode cX7_seatBy 33 = .ok (.iload_n 3, 1) := by decide +kernel
theorem dX7_seatBy_34 : decode cX7_seatBy 34 = .ok (.aload_n 0, 1) := by decide +kernel
theorem dX7_seatBy_35 : decode cX7_seatBy 35 = .ok (.getfield 32, 3) := by decide +kernel
theorem dX7_seatBy_38 : decode cX7_seatBy 38 = .ok (.iload 4, 2) := by decide +kernel
theorem dX7_seatBy_40 : decode cX7_seatBy 40 = .ok (.iaload, 1) := by decide +kernel
theorem dX7_seatBy_41 : decode cX7_seatBy 41 = .ok (.invokestatic 248, 3) := by decide +kernel
theorem dX7_seatBy_44 : decode cX7_seatBy 44 = .ok (.ifCond .eq 5, 3) := by decide +kernel
theorem dX7_seatBy_47 : decode cX7_seatBy 47 = .ok (.iconst 0, 1) := by decide +kernel
theorem dX7_seatBy_48 : decode cX7_seatBy 48 = .ok (.ireturn, 1) := by decide +kernel
theorem dX7_seatBy_49 : decode cX7_seatBy 49 = .ok (.iload_n 3, 1) := by decide +kernel
theorem dX7_seatBy_50 : decode cX7_seatBy 50 = .ok (.iconst 1, 1) := by decide +kernel
theorem dX7_seatBy_51 : decode cX7_seatBy 51 = .ok (.aload_n 0, 1) := by decide +kernel
theorem dX7_seatBy_52 : decode cX7_seatBy 52 = .ok (.getfield 32, 3) := by decide +kernel
theorem dX7_seatBy_55 : decode cX7_seatBy 55 = .ok (.iload 4, 2) := by decide +kernel
theorem dX7_seatBy_57 : decode cX7_seatBy 57 = .ok (.iaload, 1) := by decide +kernel
theorem dX7_seatBy_58 : decode cX7_seatBy 58 = .ok (.ishl, 1) := by decide +kernel
theorem dX7_seatBy_59 : decode cX7_seatBy 59 = .ok (.ior, 1) := by decide +kernel
theorem dX7_seatBy_60 : decode cX7_seatBy 60 = .ok (.istore_n 3, 1) := by decide +kernel
theorem dX7_seatBy_61 : decode cX7_seatBy 61 = .ok (.iinc 4 (-1), 3) := by decide +kernel
theorem dX7_seatBy_64 : decode cX7_seatBy 64 = .ok (.goto (-52), 3) := by decide +kernel
theorem dX7_seatBy_67 : decode cX7_seatBy 67 = .ok (.iconst 1, 1) := by decide +kernel
theorem dX7_seatBy_68 : decode cX7_seatBy 68 = .ok (.ireturn, 1) := by decide +kernel
theorem dX7_all_0 : decode cX7_all 0 = .ok (.iload_n 1, 1) := by decide +kernel
theorem dX7_all_1 : decode cX7_all 1 = .ok (.iconst (-1), 1) := by decide +kernel
theorem dX7_all_2 : decode cX7_all 2 = .ok (.if_icmp .eq 16, 3) := by decide +kernel
theorem dX7_all_5 : decode cX7_all 5 = .ok (.aload_n 0, 1) := by decide +kernel
theorem dX7_all_6 : decode cX7_all 6 = .ok (.iload_n 1, 1) := by decide +kernel
theorem dX7_all_7 : decode cX7_all 7 = .ok (.invokevirtual 212, 3) := by decide +kernel
theorem dX7_all_10 : decode cX7_all 10 = .ok (.ifCond .ne 8, 3) := by decide +kernel
theorem dX7_all_13 : decode cX7_all 13 = .ok (.aload_n 0, 1) := by decide +kernel
theorem dX7_all_14 : decode cX7_all 14 = .ok (.invokevirtual 221, 3) := by decide +kernel
theorem dX7_all_17 : decode cX7_all 17 = .ok (.ireturn, 1) := by decide +kernel
theorem dX7_all_18 : decode cX7_all 18 = .ok (.iconst 1, 1) := by decide +kernel
theorem dX7_all_19 : decode cX7_all 19 = .ok (.istore_n 2, 1) := by decide +kernel
theorem dX7_all_20 : decode cX7_all 20 = .ok (.iconst 0, 1) := by decide +kernel
theorem dX7_all_21 : decode cX7_all 21 = .ok (.istore_n 3, 1) := by decide +kernel
theorem dX7_all_22 : decode cX7_all 22 = .ok (.iload_n 3, 1) := by decide +kernel
theorem dX7_all_23 : decode cX7_all 23 = .ok (.aload_n 0, 1) := by decide +kernel
theorem dX7_all_24 : decode cX7_all 24 = .ok (.getfield 79, 3) := by decide +kernel
theorem dX7_all_27 : decode cX7_all 27 = .ok (.if_icmp .ge 26, 3) := by decide +kernel
theorem dX7_all_30 : decode cX7_all 30 = .ok (.aload_n 0, 1) := by decide +kernel
theorem dX7_all_31 : decode cX7_all 31 = .ok (.getfield 59, 3) := by decide +kernel
theorem dX7_all_34 : decode cX7_all 34 = .ok (.iload_n 3, 1) := by decide +kernel
theorem dX7_all_35 : decode cX7_all 35 = .ok (.aload_n 0, 1) := by decide +kernel
theorem dX7_all_36 : decode cX7_all 36 = .ok (.getfield 32, 3) := by decide +kernel
theorem dX7_all_39 : decode cX7_all 39 = .ok (.iload_n 3, 1) := by decide +kernel
theorem dX7_all_40 : decode cX7_all 40 = .ok (.iaload, 1) := by decide +kernel
theorem dX7_all_41 : decode cX7_all 41 = .ok (.iastore, 1) := by decide +kernel
theorem dX7_all_42 : decode cX7_all 42 = .ok (.iload_n 2, 1) := by decide +kernel
theorem dX7_all_43 : decode cX7_all 43 = .ok (.bipush 8, 2) := by decide +kernel
theorem dX7_all_45 : decode cX7_all 45 = .ok (.imul, 1) := by decide +kernel
theorem dX7_all_46 : decode cX7_all 46 = .ok (.istore_n 2, 1) := by decide +kernel
theorem dX7_all_47 : decode cX7_all 47 = .ok (.iinc 3 1, 3) := by decide +kernel
theorem dX7_all_50 : decode cX7_all 50 = .ok (.goto (-28), 3) := by decide +kernel
theorem dX7_all_53 : decode cX7_all 53 = .ok (.iconst (-1), 1) := by decide +kernel
theorem dX7_all_54 : decode cX7_all 54 = .ok (.istore_n 3, 1) := by decide +kernel
theorem dX7_all_55 : decode cX7_all 55 = .ok (.iconst 0, 1) := by decide +kernel
theorem dX7_all_56 : decode cX7_all 56 = .ok (.istore 4, 2) := by decide +kernel
theorem dX7_all_58 : decode cX7_all 58 = .ok (.iload 4, 2) := by decide +kernel
theorem dX7_all_60 : decode cX7_all 60 = .ok (.iload_n 2, 1) := by decide +kernel
theorem dX7_all_61 : decode cX7_all 61 = .ok (.if_icmp .ge 101, 3) := by decide +kernel
theorem dX7_all_64 : decode cX7_all 64 = .ok (.aload_n 0, 1) := by decide +kernel
theorem dX7_all_65 : decode cX7_all 65 = .ok (.iload 4, 2) := by decide +kernel
theorem dX7_all_67 : decode cX7_all 67 = .ok (.invokevirtual 251, 3) := by decide +kernel
theorem dX7_all_70 : decode cX7_all 70 = .ok (.ifCond .eq 86, 3) := by decide +kernel
theorem dX7_all_73 : decode cX7_all 73 = .ok (.iconst 0, 1) := by decide +kernel
theorem dX7_all_74 : decode cX7_all 74 = .ok (.istore 5, 2) := by decide +kernel
theorem dX7_all_76 : decode cX7_all 76 = .ok (.iconst 0, 1) := by decide +kernel
theorem dX7_all_77 : decode cX7_all 77 = .ok (.istore 6, 2) := by decide +kernel
theorem dX7_all_79 : decode cX7_all 79 = .ok (.iload 6, 2) := by decide +kernel
theorem dX7_all_81 : decode cX7_all 81 = .ok (.aload_n 0, 1) := by decide +kernel
theorem dX7_all_82 : decode cX7_all 82 = .ok (.getfield 79, 3) := by decide +kernel
theorem dX7_all_85 : decode cX7_all 85 = .ok (.if_icmp .ge 20, 3) := by decide +kernel
theorem dX7_all_88 : decode cX7_all 88 = .ok (.iload 5, 2) := by decide +kernel
theorem dX7_all_90 : decode cX7_all 90 = .ok (.aload_n 0, 1) := by decide +kernel
theorem dX7_all_91 : decode cX7_all 91 = .ok (.iload 6, 2) := by decide +kernel
theorem dX7_all_93 : decode cX7_all 93 = .ok (.invokevirtual 230, 3) := by decide +kernel
theorem dX7_all_96 : decode cX7_all 96 = .ok (.iadd, 1) := by decide +kernel
theorem dX7_all_97 : decode cX7_all 97 = .ok (.istore 5, 2) := by decide +kernel
theorem dX7_all_99 : decode cX7_all 99 = .ok (.iinc 6 1, 3) := by decide +kernel
theorem dX7_all_102 : decode cX7_all 102 = .ok (.goto (-23), 3) := by decide +kernel
theorem dX7_all_105 : decode cX7_all 105 = .ok (.iconst 0, 1) := by decide +kernel
theorem dX7_all_106 : decode cX7_all 106 = .ok (.istore 6, 2) := by decide +kernel
theorem dX7_all_108 : decode cX7_all 108 = .ok (.iload 6, 2) := by decide +kernel
theorem dX7_all_110 : decode cX7_all 110 = .ok (.aload_n 0, 1) := by decide +kernel
theorem dX7_all_111 : decode cX7_all 111 = .ok (.getfield 79, 3) := by decide +kernel
theorem dX7_all_114 : decode cX7_all 114 = .ok (.if_icmp .ge 29, 3) := by decide +kernel
theorem dX7_all_117 : decode cX7_all 117 = .ok (.iload 5, 2) := by decide +kernel
theorem dX7_all_119 : decode cX7_all 119 = .ok (.iload_n 3, 1) := by decide +kernel
theorem dX7_all_120 : decode cX7_all 120 = .ok (.if_icmp .le 23, 3) := by decide +kernel
theorem dX7_all_123 : decode cX7_all 123 = .ok (.aload_n 0, 1) := by decide +kernel
theorem dX7_all_124 : decode cX7_all 124 = .ok (.getfield 62, 3) := by decide +kernel
theorem dX7_all_127 : decode cX7_all 127 = .ok (.iload 6, 2) := by decide +kernel
theorem dX7_all_129 : decode cX7_all 129 = .ok (.aload_n 0, 1) := by decide +kernel
theorem dX7_all_130 : decode cX7_all 130 = .ok (.getfield 32, 3) := by decide +kernel
theorem dX7_all_133 : decode cX7_all 133 = .ok (.iload 6, 2) := by decide +kernel
theorem dX7_all_135 : decode cX7_all 135 = .ok (.iaload, 1) := by decide +kernel
theorem dX7_all_136 : decode cX7_all 136 = .ok (.iastore, 1) := by decide +kernel
theorem dX7_all_137 : decode cX7_all 137 = .ok (.iinc 6 1, 3) := by decide +kernel
theorem dX7_all_140 : decode cX7_all 140 = .ok (.goto (-32), 3) := by decide +kernel
theorem dX7_all_143 : decode cX7_all 143 = .ok (.iload 5, 2) := by decide +kernel
theorem dX7_all_145 : decode cX7_all 145 = .ok (.iload_n 3, 1) := by decide +kernel
theorem dX7_all_146 : decode cX7_all 146 = .ok (.if_icmp .le 8, 3) := by decide +kernel
theorem dX7_all_149 : decode cX7_all 149 = .ok (.iload 5, 2) := by decide +kernel
theorem dX7_all_151 : decode cX7_all 151 = .ok (.goto 4, 3) := by decide +kernel
theorem dX7_all_154 : decode cX7_all 154 = .ok (.iload_n 3, 1) := by decide +kernel
theorem dX7_all_155 : decode cX7_all 155 = .ok (.istore_n 3, 1) := by decide +kernel
theorem dX7_all_156 : decode cX7_all 156 = .ok (.iinc 4 1, 3) := by decide +kernel
theorem dX7_all_159 : decode cX7_all 159 = .ok (.goto (-101), 3) := by decide +kernel
theorem dX7_all_162 : decode cX7_all 162 = .ok (.iconst 0, 1) := by decide +kernel
theorem dX7_all_163 : decode cX7_all 163 = .ok (.istore 4, 2) := by decide +kernel
theorem dX7_all_165 : decode cX7_all 165 = .ok (.iload 4, 2) := by decide +kernel
theorem dX7_all_167 : decode cX7_all 167 = .ok (.aload_n 0, 1) := by decide +kernel
theorem dX7_all_168 : decode cX7_all 168 = .ok (.getfield 79, 3) := by decide +kernel
theorem dX7_all_171 : decode cX7_all 171 = .ok (.if_icmp .ge 23, 3) := by decide +kernel
theorem dX7_all_174 : decode cX7_all 174 = .ok (.aload_n 0, 1) := by decide +kernel
theorem dX7_all_175 : decode cX7_all 175 = .ok (.getfield 32, 3) := by decide +kernel
theorem dX7_all_178 : decode cX7_all 178 = .ok (.iload 4, 2) := by decide +kernel
theorem dX7_all_180 : decode cX7_all 180 = .ok (.aload_n 0, 1) := by decide +kernel
theorem dX7_all_181 : decode cX7_all 181 = .ok (.getfield 59, 3) := by decide +kernel
theorem dX7_all_184 : decode cX7_all 184 = .ok (.iload 4, 2) := by decide +kernel
theorem dX7_all_186 : decode cX7_all 186 = .ok (.iaload, 1) := by decide +kernel
theorem dX7_all_187 : decode cX7_all 187 = .ok (.iastore, 1) := by decide +kernel
theorem dX7_all_188 : decode cX7_all 188 = .ok (.iinc 4 1, 3) := by decide +kernel
theorem dX7_all_191 : decode cX7_all 191 = .ok (.goto (-26), 3) := by decide +kernel
theorem dX7_all_194 : decode cX7_all 194 = .ok (.iload_n 1, 1) := by decide +kernel
theorem dX7_all_195 : decode cX7_all 195 = .ok (.iconst (-1), 1) := by decide +kernel
theorem dX7_all_196 : decode cX7_all 196 = .ok (.if_icmp .ne 7, 3) := by decide +kernel
theorem dX7_all_199 : decode cX7_all 199 = .ok (.iload_n 3, 1) := by decide +kernel
theorem dX7_all_200 : decode cX7_all 200 = .ok (.goto 9, 3) := by decide +kernel
theorem dX7_all_203 : decode cX7_all 203 = .ok (.aload_n 0, 1) := by decide +kernel
theorem dX7_all_204 : decode cX7_all 204 = .ok (.getfield 62, 3) := by decide +kernel
theorem dX7_all_207 : decode cX7_all 207 = .ok (.iload_n 1, 1) := by decide +kernel
theorem dX7_all_208 : decode cX7_all 208 = .ok (.iaload, 1) := by decide +kernel
theorem dX7_all_209 : decode cX7_all 209 = .ok (.ireturn, 1) := by decide +kernel
theorem dX7_move_0 : decode cX7_move 0 = .ok (.iload_n 1, 1) := by decide +kernel
theorem dX7_move_1 : decode cX7_move 1 = .ok (.iconst 0, 1) := by decide +kernel
theorem dX7_move_2 : decode cX7_move 2 = .ok (.iconst 1, 1) := by decide +kernel
theorem dX7_move_3 : decode cX7_move 3 = .ok (.invokestatic 88, 3) := by decide +kernel
theorem dX7_move_6 : decode cX7_move 6 = .ok (.ifCond .ne 8, 3) := by decide +kernel
theorem dX7_move_9 : decode cX7_move 9 = .ok (.aload_n 0, 1) := by decide +kernel
theorem dX7_move_10 : decode cX7_move 10 = .ok (.invokevirtual 96, 3) := by decide +kernel
theorem dX7_move_13 : decode cX7_move 13 = .ok (.ireturn, 1) := by decide +kernel
theorem dX7_move_14 : decode cX7_move 14 = .ok (.iconst (-1), 1) := by decide +kernel
theorem dX7_move_15 : decode cX7_move 15 = .ok (.istore_n 2, 1) := by decide +kernel
theorem dX7_move_16 : decode cX7_move 16 = .ok (.iconst (-1), 1) := by decide +kernel
theorem dX7_move_17 : decode cX7_move 17 = .ok (.istore_n 3, 1) := by decide +kernel
theorem dX7_move_18 : decode cX7_move 18 = .ok (.iconst 0, 1) := by decide +kernel
theorem dX7_move_19 : decode cX7_move 19 = .ok (.istore 4, 2) := by decide +kernel
theorem dX7_move_21 : decode cX7_move 21 = .ok (.iload 4, 2) := by decide +kernel
theorem dX7_move_23 : decode cX7_move 23 = .ok (.aload_n 0, 1) := by decide +kernel
theorem dX7_move_24 : decode cX7_move 24 = .ok (.getfield 79, 3) := by decide +kernel
theorem dX7_move_27 : decode cX7_move 27 = .ok (.if_icmp .ge 65, 3) := by decide +kernel
theorem dX7_move_30 : decode cX7_move 30 = .ok (.aload_n 0, 1) := by decide +kernel
theorem dX7_move_31 : decode cX7_move 31 = .ok (.getfield 32, 3) := by decide +kernel
theorem dX7_move_34 : decode cX7_move 34 = .ok (.iload 4, 2) := by decide +kernel
theorem dX7_move_36 : decode cX7_move 36 = .ok (.iaload, 1) := by decide +kernel
theorem dX7_move_37 : decode cX7_move 37 = .ok (.iconst (-1), 1) := by decide +kernel
theorem dX7_move_38 : decode cX7_move 38 = .ok (.if_icmp .ne 7, 3) := by decide +kernel
theorem dX7_move_41 : decode cX7_move 41 = .ok (.iconst (-1), 1) := by decide +kernel
theorem dX7_move_42 : decode cX7_move 42 = .ok (.goto 16, 3) := by decide +kernel
theorem dX7_move_45 : decode cX7_move 45 = .ok (.aload_n 0, 1) := by decide +kernel
theorem dX7_move_46 : decode cX7_move 46 = .ok (.iload 4, 2) := by decide +kernel
theorem dX7_move_48 : decode cX7_move 48 = .ok (.aload_n 0, 1) := by decide +kernel
theorem dX7_move_49 : decode cX7_move 49 = .ok (.getfield 32, 3) := by decide +kernel
theorem dX7_move_52 : decode cX7_move 52 = .ok (.iload 4, 2) := by decide +kernel
theorem dX7_move_54 : decode cX7_move 54 = .ok (.iaload, 1) := by decide +kernel
theorem dX7_move_55 : decode cX7_move 55 = .ok (.invokevirtual 245, 3) := by decide +kernel
theorem dX7_move_58 : decode cX7_move 58 = .ok (.istore 5, 2) := by decide +kernel
theorem dX7_move_60 : decode cX7_move 60 = .ok (.iload 5, 2) := by decide +kernel
theorem dX7_move_62 : decode cX7_move 62 = .ok (.iload_n 3, 1) := by decide +kernel
theorem dX7_move_63 : decode cX7_move 63 = .ok (.if_icmp .le 8, 3) := by decide +kernel
theorem dX7_move_66 : decode cX7_move 66 = .ok (.iload 4, 2) := by decide +kernel
theorem dX7_move_68 : decode cX7_move 68 = .ok (.goto 4, 3) := by decide +kernel
theorem dX7_move_71 : decode cX7_move 71 = .ok (.iload_n 2, 1) := by decide +kernel
theorem dX7_move_72 : decode cX7_move 72 = .ok (.istore_n 2, 1) := by decide +kernel
theorem dX7_move_73 : decode cX7_move 73 = .ok (.iload 5, 2) := by decide +kernel
theorem dX7_move_75 : decode cX7_move 75 = .ok (.iload_n 3, 1) := by decide +kernel
theorem dX7_move_76 : decode cX7_move 76 = .ok (.if_icmp .le 8, 3) := by decide +kernel
theorem dX7_move_79 : decode cX7_move 79 = .ok (.iload 5, 2) := by decide +kernel
theorem dX7_move_81 : decode cX7_move 81 = .ok (.goto 4, 3) := by decide +kernel
theorem dX7_move_84 : decode cX7_move 84 = .ok (.iload_n 3, 1) := by decide +kernel
theorem dX7_move_85 : decode cX7_move 85 = .ok (.istore_n 3, 1) := by decide +kernel
theorem dX7_move_86 : decode cX7_move 86 = .ok (.iinc 4 1, 3) := by decide +kernel
theorem dX7_move_89 : decode cX7_move 89 = .ok (.goto (-68), 3) := by decide +kernel
theorem dX7_move_92 : decode cX7_move 92 = .ok (.iload_n 1, 1) := by decide +kernel
theorem dX7_move_93 : decode cX7_move 93 = .ok (.ifCond .ne 7, 3) := by decide +kernel
theorem dX7_move_96 : decode cX7_move 96 = .ok (.iload_n 2, 1) := by decide +kernel
theorem dX7_move_97 : decode cX7_move 97 = .ok (.goto 4, 3) := by decide +kernel
theorem dX7_move_100 : decode cX7_move 100 = .ok (.iload_n 3, 1) := by decide +kernel
theorem dX7_move_101 : decode cX7_move 101 = .ok (.ireturn, 1) := by decide +kernel
theorem dX7_note_0 : decode cX7_note 0 = .ok (.aload_n 0, 1) := by decide +kernel
theorem dX7_note_1 : decode cX7_note 1 = .ok (.iload_n 1, 1) := by decide +kernel
theorem dX7_note_2 : decode cX7_note 2 = .ok (.invokevirtual 212, 3) := by decide +kernel
theorem dX7_note_5 : decode cX7_note 5 = .ok (.ifCond .eq 36, 3) := by decide +kernel
theorem dX7_note_8 : decode cX7_note 8 = .ok (.iload_n 2, 1) := by decide +kernel
theorem dX7_note_9 : decode cX7_note 9 = .ok (.iconst 0, 1) := by decide +kernel
theorem dX7_note_10 : decode cX7_note 10 = .ok (.sipush 240, 3) := by decide +kernel
theorem dX7_note_13 : decode cX7_note 13 = .ok (.invokestatic 88, 3) := by decide +kernel
theorem dX7_note_16 : decode cX7_note 16 = .ok (.ifCond .eq 25, 3) := by decide +kernel
theorem dX7_note_19 : decode cX7_note 19 = .ok (.iload_n 3, 1) := by decide +kernel
theorem dX7_note_20 : decode cX7_note 20 = .ok (.iconst 0, 1) := by decide +kernel
theorem dX7_note_21 : decode cX7_note 21 = .ok (.bipush 9, 2) := by decide +kernel
theorem dX7_note_23 : decode cX7_note 23 = .ok (.invokestatic 88, 3) := by decide +kernel
theorem dX7_note_26 : decode cX7_note 26 = .ok (.ifCond .eq 15, 3) := by decide +kernel
theorem dX7_note_29 : decode cX7_note 29 = .ok (.iload 4, 2) := by decide +kernel
theorem dX7_note_31 : decode cX7_note 31 = .ok (.iconst 0, 1) := by decide +kernel
theorem dX7_note_32 : decode cX7_note 32 = .ok (.sipush 500, 3) := by decide +kernel
theorem dX7_note_35 : decode cX7_note 35 = .ok (.invokestatic 88, 3) := by decide +kernel
theorem dX7_note_38 : decode cX7_note 38 = .ok (.ifCond .ne 8, 3) := by decide +kernel
theorem dX7_note_41 : decode cX7_note 41 = .ok (.aload_n 0, 1) := by decide +kernel
theorem dX7_note_42 : decode cX7_note 42 = .ok (.invokevirtual 96, 3) := by decide +kernel
theorem dX7_note_45 : decode cX7_note 45 = .ok (.ireturn, 1) := by decide +kernel
theorem dX7_note_46 : decode cX7_note 46 = .ok (.aload_n 0, 1) := by decide +kernel
theorem dX7_note_47 : decode cX7_note 47 = .ok (.getfield 82, 3) := by decide +kernel
theorem dX7_note_50 : decode cX7_note 50 = .ok (.bipush 6, 2) := by decide +kernel
theorem dX7_note_52 : decode cX7_note 52 = .ok (.if_icmp .ne 8, 3) := by decide +kernel
theorem dX7_note_55 : decode cX7_note 55 = .ok (.aload_n 0, 1) := by decide +kernel
theorem dX7_note_56 : decode cX7_note 56 = .ok (.invokevirtual 100, 3) := by decide +kernel
theorem dX7_note_59 : decode cX7_note 59 = .ok (.ireturn, 1) := by decide +kernel
theorem dX7_note_60 : decode cX7_note 60 = .ok (.aload_n 0, 1) := by decide +kernel
theorem dX7_note_61 : decode cX7_note 61 = .ok (.getfield 35, 3) := by decide +kernel
theorem dX7_note_64 : decode cX7_note 64 = .ok (.aload_n 0, 1) := by decide +kernel
theorem dX7_note_65 : decode cX7_note 65 = .ok (.getfield 82, 3) := by decide +kernel
theorem dX7_note_68 : decode cX7_note 68 = .ok (.iload_n 1, 1) := by decide +kernel
theorem dX7_note_69 : decode cX7_note 69 = .ok (.iastore, 1) := by decide +kernel
theorem dX7_note_70 : decode cX7_note 70 = .ok (.aload_n 0, 1) := by decide +kernel
theorem dX7_note_71 : decode cX7_note 71 = .ok (.getfield 38, 3) := by decide +kernel
theorem dX7_note_74 : decode cX7_note 74 = .ok (.aload_n 0, 1) := by decide +kernel
theorem dX7_note_75 : decode cX7_note 75 = .ok (.getfield 82, 3) := by decide +kernel
theorem dX7_note_78 : decode cX7_note 78 = .ok (.iload_n 2, 1) := by decide +kernel
theorem dX7_note_79 : decode cX7_note 79 = .ok (.iastore, 1) := by decide +kernel
theorem dX7_note_80 : decode cX7_note 80 = .ok (.aload_n 0, 1) := by decide +kernel
theorem dX7_note_81 : decode cX7_note 81 = .ok (.getfield 41, 3) := by decide +kernel
theorem dX7_note_84 : decode cX7_note 84 = .ok (.aload_n 0, 1) := by decide +kernel
theorem dX7_note_85 : decode cX7_note 85 = .ok (.getfield 82, 3) := by decide +kernel
theorem dX7_note_88 : decode cX7_note 88 = .ok (.iload_n 3, 1) := by decide +kernel
theorem dX7_note_89 : decode cX7_note 89 = .ok (.iastore, 1) := by decide +kernel
theorem dX7_note_90 : decode cX7_note 90 = .ok (.aload_n 0, 1) := by decide +kernel
theorem dX7_note_91 : decode cX7_note 91 = .ok (.getfield 44, 3) := by decide +kernel
theorem dX7_note_94 : decode cX7_note 94 = .ok (.aload_n 0, 1) := by decide +kernel
theorem dX7_note_95 : decode cX7_note 95 = .ok (.getfield 82, 3) := by decide +kernel
theorem dX7_note_98 : decode cX7_note 98 = .ok (.iload 4, 2) := by decide +kernel
theorem dX7_note_100 : decode cX7_note 100 = .ok (.iastore, 1) := by decide +kernel
theorem dX7_note_101 : decode cX7_note 101 = .ok (.aload_n 0, 1) := by decide +kernel
theorem dX7_note_102 : decode cX7_note 102 = .ok (.dup, 1) := by decide +kernel
theorem dX7_note_103 : decode cX7_note 103 = .ok (.getfield 82, 3) := by decide +kernel
theorem dX7_note_106 : decode cX7_note 106 = .ok (.iconst 1, 1) := by decide +kernel
theorem dX7_note_107 : decode cX7_note 107 = .ok (.iadd, 1) := by decide +kernel
theorem dX7_note_108 : decode cX7_note 108 = .ok (.putfield 82, 3) := by decide +kernel
theorem dX7_note_111 : decode cX7_note 111 = .ok (.aload_n 0, 1) := by decide +kernel
theorem dX7_note_112 : decode cX7_note 112 = .ok (.getfield 82, 3) := by decide +kernel
theorem dX7_note_115 : decode cX7_note 115 = .ok (.ireturn, 1) := by decide +kernel
theorem dX7_forget_0 : decode cX7_forget 0 = .ok (.aload_n 0, 1) := by decide +kernel
theorem dX7_forget_1 : decode cX7_forget 1 = .ok (.getfield 82, 3) := by decide +kernel
theorem dX7_forget_4 : decode cX7_forget 4 = .ok (.istore_n 1, 1) := by decide +kernel
theorem dX7_forget_5 : decode cX7_forget 5 = .ok (.aload_n 0, 1) := by decide +kernel
theorem dX7_forget_6 : decode cX7_forget 6 = .ok (.iconst 0, 1) := by decide +kernel
theorem dX7_forget_7 : decode cX7_forget 7 = .ok (.putfield 82, 3) := by decide +kernel
theorem dX7_forget_10 : decode cX7_forget 10 = .ok (.iload_n 1, 1) := by decide +kernel
theorem dX7_forget_11 : decode cX7_forget 11 = .ok (.ireturn, 1) := by decide +kernel
theorem dX7_kindsOf_0 : decode cX7_kindsOf 0 = .ok (.iconst 0, 1) := by decide +kernel
theorem dX7_kindsOf_1 : decode cX7_kindsOf 1 = .ok (.istore_n 2, 1) := by decide +kernel
theorem dX7_kindsOf_2 : decode cX7_kindsOf 2 = .ok (.iconst 0, 1) := by decide +kernel
theorem dX7_kindsOf_3 : decode cX7_kindsOf 3 = .ok (.istore_n 3, 1) := by decide +kernel
theorem dX7_kindsOf_4 : decode cX7_kindsOf 4 = .ok (.iload_n 3, 1) := by decide +kernel
theorem dX7_kindsOf_5 : decode cX7_kindsOf 5 = .ok (.iconst 5, 1) := by decide +kernel
theorem dX7_kindsOf_6 : decode cX7_kindsOf 6 = .ok (.if_icmp .gt 108, 3) := by decide +kernel
theorem dX7_kindsOf_9 : decode cX7_kindsOf 9 = .ok (.iconst 1, 1) := by decide +kernel
theorem dX7_kindsOf_10 : decode cX7_kindsOf 10 = .ok (.istore 4, 2) := by decide +kernel
theorem dX7_kindsOf_12 : decode cX7_kindsOf 12 = .ok (.iconst 0, 1) := by decide +kernel
theorem dX7_kindsOf_13 : decode cX7_kindsOf 13 = .ok (.istore 5, 2) := by decide +kernel
theorem dX7_kindsOf_15 : decode cX7_kindsOf 15 = .ok (.iload 5, 2) := by decide +kernel
theorem dX7_kindsOf_17 : decode cX7_kindsOf 17 = .ok (.aload_n 0, 1) := by decide +kernel
theorem dX7_kindsOf_18 : decode cX7_kindsOf 18 = .ok (.getfield 82, 3) := by decide +kernel
theorem dX7_kindsOf_21 : decode cX7_kindsOf 21 = .ok (.if_icmp .ge 72, 3) := by decide +kernel
theorem dX7_kindsOf_24 : decode cX7_kindsOf 24 = .ok (.iload_n 3, 1) := by decide +kernel
theorem dX7_kindsOf_25 : decode cX7_kindsOf 25 = .ok (.aload_n 0, 1) := by decide +kernel
theorem dX7_kindsOf_26 : decode cX7_kindsOf 26 = .ok (.getfield 38, 3) := by decide +kernel
theorem dX7_kindsOf_29 : decode cX7_kindsOf 29 = .ok (.iload 5, 2) := by decide +kernel
theorem dX7_kindsOf_31 : decode cX7_kindsOf 31 = .ok (.iaload, 1) := by decide +kernel
theorem dX7_kindsOf_32 : decode cX7_kindsOf 32 = .ok (.aload_n 0, 1) := by decide +kernel
theorem dX7_kindsOf_33 : decode cX7_kindsOf 33 = .ok (.getfield 41, 3) := by decide +kernel
theorem dX7_kindsOf_36 : decode cX7_kindsOf 36 = .ok (.iload 5, 2) := by decide +kernel
theorem dX7_kindsOf_38 : decode cX7_kindsOf 38 = .ok (.iaload, 1) := by decide +kernel
theorem dX7_kindsOf_39 : decode cX7_kindsOf 39 = .ok (.invokestatic 189, 3) := by decide +kernel
theorem dX7_kindsOf_42 : decode cX7_kindsOf 42 = .ok (.aload_n 0, 1) := by decide +kernel
theorem dX7_kindsOf_43 : decode cX7_kindsOf 43 = .ok (.getfield 44, 3) := by decide +kernel
theorem dX7_kindsOf_46 : decode cX7_kindsOf 46 = .ok (.iload 5, 2) := by decide +kernel
theorem dX7_kindsOf_48 : decode cX7_kindsOf 48 = .ok (.iaload, 1) := by decide +kernel
theorem dX7_kindsOf_49 : decode cX7_kindsOf 49 = .ok (.if_icmp .ne 7, 3) := by decide +kernel
theorem dX7_kindsOf_52 : decode cX7_kindsOf 52 = .ok (.iconst 1, 1) := by decide +kernel
theorem dX7_kindsOf_53 : decode cX7_kindsOf 53 = .ok (.goto 4, 3) := by decide +kernel
theorem dX7_kindsOf_56 : decode cX7_kindsOf 56 = .ok (.iconst 0, 1) := by decide +kernel
theorem dX7_kindsOf_57 : decode cX7_kindsOf 57 = .ok (.istore 6, 2) := by decide +kernel
theorem dX7_kindsOf_59 : decode cX7_kindsOf 59 = .ok (.iload 4, 2) := by decide +kernel
theorem dX7_kindsOf_61 : decode cX7_kindsOf 61 = .ok (.ifCond .eq 23, 3) := by decide +kernel
theorem dX7_kindsOf_64 : decode cX7_kindsOf 64 = .ok (.aload_n 0, 1) := by decide +kernel
theorem dX7_kindsOf_65 : decode cX7_kindsOf 65 = .ok (.getfield 35, 3) := by decide +kernel
theorem dX7_kindsOf_68 : decode cX7_kindsOf 68 = .ok (.iload 5, 2) := by decide +kernel
theorem dX7_kindsOf_70 : decode cX7_kindsOf 70 = .ok (.iaload, 1) := by decide +kernel
theorem dX7_kindsOf_71 : decode cX7_kindsOf 71 = .ok (.iload_n 1, 1) := by decide +kernel
theorem dX7_kindsOf_72 : decode cX7_kindsOf 72 = .ok (.if_icmp .ne 8, 3) := by decide +kernel
theorem dX7_kindsOf_75 : decode cX7_kindsOf 75 = .ok (.iload 6, 2) := by decide +kernel
theorem dX7_kindsOf_77 : decode cX7_kindsOf 77 = .ok (.ifCond .eq 7, 3) := by decide +kernel
theorem dX7_kindsOf_80 : decode cX7_kindsOf 80 = .ok (.iconst 1, 1) := by decide +kernel
theorem dX7_kindsOf_81 : decode cX7_kindsOf 81 = .ok (.goto 4, 3) := by decide +kernel
theorem dX7_kindsOf_84 : decode cX7_kindsOf 84 = .ok (.iconst 0, 1) := by decide +kernel
theorem dX7_kindsOf_85 : decode cX7_kindsOf 85 = .ok (.istore 4, 2) := by decide +kernel
theorem dX7_kindsOf_87 : decode cX7_kindsOf 87 = .ok (.iinc 5 1, 3) := by decide +kernel
theorem dX7_kindsOf_90 : decode cX7_kindsOf 90 = .ok (.goto (-75), 3) := by decide +kernel
theorem dX7_kindsOf_93 : decode cX7_kindsOf 93 = .ok (.iload_n 2, 1) := by decide +kernel
theorem dX7_kindsOf_94 : decode cX7_kindsOf 94 = .ok (.iload 4, 2) := by decide +kernel
theorem dX7_kindsOf_96 : decode cX7_kindsOf 96 = .ok (.ifCond .eq 9, 3) := by decide +kernel
theorem dX7_kindsOf_99 : decode cX7_kindsOf 99 = .ok (.iconst 1, 1) := by decide +kernel
theorem dX7_kindsOf_100 : decode cX7_kindsOf 100 = .ok (.iload_n 3, 1) := by decide +kernel
theorem dX7_kindsOf_101 : decode cX7_kindsOf 101 = .ok (.ishl, 1) := by decide +kernel
theorem dX7_kindsOf_102 : decode cX7_kindsOf 102 = .ok (.goto 4, 3) := by decide +kernel
theorem dX7_kindsOf_105 : decode cX7_kindsOf 105 = .ok (.iconst 0, 1) := by decide +kernel
theorem dX7_kindsOf_106 : decode cX7_kindsOf 106 = .ok (.ior, 1) := by decide +kernel
theorem dX7_kindsOf_107 : decode cX7_kindsOf 107 = .ok (.istore_n 2, 1) := by decide +kernel
theorem dX7_kindsOf_108 : decode cX7_kindsOf 108 = .ok (.iinc 3 1, 3) := by decide +kernel
theorem dX7_kindsOf_111 : decode cX7_kindsOf 111 = .ok (.goto (-107), 3) := by decide +kernel
theorem dX7_kindsOf_114 : decode cX7_kindsOf 114 = .ok (.iload_n 2, 1) := by decide +kernel
theorem dX7_kindsOf_115 : decode cX7_kindsOf 115 = .ok (.ireturn, 1) := by decide +kernel
theorem dX7_is_0 : decode cX7_is 0 = .ok (.aload_n 0, 1) := by decide +kernel
theorem dX7_is_1 : decode cX7_is 1 = .ok (.iload_n 1, 1) := by decide +kernel
theorem dX7_is_2 : decode cX7_is 2 = .ok (.invokevirtual 212, 3) := by decide +kernel
theorem dX7_is_5 : decode cX7_is 5 = .ok (.ifCond .eq 11, 3) := by decide +kernel
theorem dX7_is_8 : decode cX7_is 8 = .ok (.aload_n 0, 1) := by decide +kernel
theorem dX7_is_9 : decode cX7_is 9 = .ok (.iload_n 1, 1) := by decide +kernel
theorem dX7_is_10 : decode cX7_is 10 = .ok (.invokevirtual 254, 3) := by decide +kernel
theorem dX7_is_13 : decode cX7_is 13 = .ok (.goto 7, 3) := by decide +kernel
theorem dX7_is_16 : decode cX7_is 16 = .ok (.aload_n 0, 1) := by decide +kernel
theorem dX7_is_17 : decode cX7_is 17 = .ok (.invokevirtual 96, 3) := by decide +kernel
theorem dX7_is_20 : decode cX7_is 20 = .ok (.ireturn, 1) := by decide +kernel
theorem dX7_alike_0 : decode cX7_alike 0 = .ok (.iconst 0, 1) := by decide +kernel
theorem dX7_alike_1 : decode cX7_alike 1 = .ok (.istore_n 3, 1) := by decide +kernel
theorem dX7_alike_2 : decode cX7_alike 2 = .ok (.iconst 0, 1) := by decide +kernel
theorem dX7_alike_3 : decode cX7_alike 3 = .ok (.istore 4, 2) := by decide +kernel
theorem dX7_alike_5 : decode cX7_alike 5 = .ok (.iload 4, 2) := by decide +kernel
theorem dX7_alike_7 : decode cX7_alike 7 = .ok (.iconst 5, 1) := by decide +kernel
theorem dX7_alike_8 : decode cX7_alike 8 = .ok (.if_icmp .gt 85, 3) := by decide +kernel
theorem dX7_alike_11 : decode cX7_alike 11 = .ok (.iconst 0, 1) := by decide +kernel
theorem dX7_alike_12 : decode cX7_alike 12 = .ok (.istore 5, 2) := by decide +kernel
theorem dX7_alike_14 : decode cX7_alike 14 = .ok (.iconst 0, 1) := by decide +kernel
theorem dX7_alike_15 : decode cX7_alike 15 = .ok (.istore 6, 2) := by decide +kernel
theorem dX7_alike_17 : decode cX7_alike 17 = .ok (.iload 6, 2) := by decide +kernel
theorem dX7_alike_19 : decode cX7_alike 19 = .ok (.iconst 5, 1) := by decide +kernel
theorem dX7_alike_20 : decode cX7_alike 20 = .ok (.if_icmp .gt 54, 3) := by decide +kernel
theorem dX7_alike_23 : decode cX7_alike 23 = .ok (.iload 5, 2) := by decide +kernel
theorem dX7_alike_25 : decode cX7_alike 25 = .ok (.iload_n 0, 1) := by decide +kernel
theorem dX7_alike_26 : decode cX7_alike 26 = .ok (.iload 4, 2) := by decide +kernel
theorem dX7_alike_28 : decode cX7_alike 28 = .ok (.invokestatic 248, 3) := by decide +kernel
theorem dX7_alike_31 : decode cX7_alike 31 = .ok (.ifCond .eq 33, 3) := by decide +kernel
theorem dX7_alike_34 : decode cX7_alike 34 = .ok (.iload_n 0, 1) := by decide +kernel
theorem dX7_alike_35 : decode cX7_alike 35 = .ok (.iload 6, 2) := by decide +kernel
theorem dX7_alike_37 : decode cX7_alike 37 = .ok (.invokestatic 248, 3) := by decide +kernel
theorem dX7_alike_40 : decode cX7_alike 40 = .ok (.ifCond .eq 24, 3) := by decide +kernel
theorem dX7_alike_43 : decode cX7_alike 43 = .ok (.iload 4, 2) := by decide +kernel
theorem dX7_alike_45 : decode cX7_alike 45 = .ok (.iload_n 1, 1) := by decide +kernel
theorem dX7_alike_46 : decode cX7_alike 46 = .ok (.iload_n 2, 1) := by decide +kernel
theorem dX7_alike_47 : decode cX7_alike 47 = .ok (.invokestatic 189, 3) := by decide +kernel
theorem dX7_alike_50 : decode cX7_alike 50 = .ok (.iload 6, 2) := by decide +kernel
theorem dX7_alike_52 : decode cX7_alike 52 = .ok (.iload_n 1, 1) := by decide +kernel
theorem dX7_alike_53 : decode cX7_alike 53 = .ok (.iload_n 2, 1) := by decide +kernel
theorem dX7_alike_54 : decode cX7_alike 54 = .ok (.invokestatic 189, 3) := by decide +kernel
theorem dX7_alike_57 : decode cX7_alike 57 = .ok (.if_icmp .ne 7, 3) := by decide +kernel
theorem dX7_alike_60 : decode cX7_alike 60 = .ok (.iconst 1, 1) := by decide +kernel
theorem dX7_alike_61 : decode cX7_alike 61 = .ok (.goto 4, 3) := by decide +kernel
theorem dX7_alike_64 : decode cX7_alike 64 = .ok (.iconst 0, 1) := by decide +kernel
theorem dX7_alike_65 : decode cX7_alike 65 = .ok (.iadd, 1) := by decide +kernel
theorem dX7_alike_66 : decode cX7_alike 66 = .ok (.istore 5, 2) := by decide +kernel
theorem dX7_alike_68 : decode cX7_alike 68 = .ok (.iinc 6 1, 3) := by decide +kernel
theorem dX7_alike_71 : decode cX7_alike 71 = .ok (.goto (-54), 3) := by decide +kernel
theorem dX7_alike_74 : decode cX7_alike 74 = .ok (.iload 5, 2) := by decide +kernel
theorem dX7_alike_76 : decode cX7_alike 76 = .ok (.iload_n 3, 1) := by decide +kernel
theorem dX7_alike_77 : decode cX7_alike 77 = .ok (.if_icmp .le 8, 3) := by decide +kernel
theorem dX7_alike_80 : decode cX7_alike 80 = .ok (.iload 5, 2) := by decide +kernel
theorem dX7_alike_82 : decode cX7_alike 82 = .ok (.goto 4, 3) := by decide +kernel
theorem dX7_alike_85 : decode cX7_alike 85 = .ok (.iload_n 3, 1) := by decide +kernel
theorem dX7_alike_86 : decode cX7_alike 86 = .ok (.istore_n 3, 1) := by decide +kernel
theorem dX7_alike_87 : decode cX7_alike 87 = .ok (.iinc 4 1, 3) := by decide +kernel
theorem dX7_alike_90 : decode cX7_alike 90 = .ok (.goto (-85), 3) := by decide +kernel
theorem dX7_alike_93 : decode cX7_alike 93 = .ok (.iload_n 3, 1) := by decide +kernel
theorem dX7_alike_94 : decode cX7_alike 94 = .ok (.ireturn, 1) := by decide +kernel
theorem dX7_offer_0 : decode cX7_offer 0 = .ok (.aload_n 0, 1) := by decide +kernel
theorem dX7_offer_1 : decode cX7_offer 1 = .ok (.iload_n 1, 1) := by decide +kernel
theorem dX7_offer_2 : decode cX7_offer 2 = .ok (.invokevirtual 212, 3) := by decide +kernel
theorem dX7_offer_5 : decode cX7_offer 5 = .ok (.ifCond .ne 8, 3) := by decide +kernel
theorem dX7_offer_8 : decode cX7_offer 8 = .ok (.aload_n 0, 1) := by decide +kernel
theorem dX7_offer_9 : decode cX7_offer 9 = .ok (.invokevirtual 96, 3) := by decide +kernel
theorem dX7_offer_12 : decode cX7_offer 12 = .ok (.ireturn, 1) := by decide +kernel
theorem dX7_offer_13 : decode cX7_offer 13 = .ok (.aload_n 0, 1) := by decide +kernel
theorem dX7_offer_14 : decode cX7_offer 14 = .ok (.iload_n 1, 1) := by decide +kernel
theorem dX7_offer_15 : decode cX7_offer 15 = .ok (.invokevirtual 254, 3) := by decide +kernel
theorem dX7_offer_18 : decode cX7_offer 18 = .ok (.istore_n 2, 1) := by decide +kernel
theorem dX7_offer_19 : decode cX7_offer 19 = .ok (.iconst (-1), 1) := by decide +kernel
theorem dX7_offer_20 : decode cX7_offer 20 = .ok (.istore_n 3, 1) := by decide +kernel
theorem dX7_offer_21 : decode cX7_offer 21 = .ok (.ldc_w 257, 3) := by decide +kernel
theorem dX7_offer_24 : decode cX7_offer 24 = .ok (.istore 4, 2) := by decide +kernel
theorem dX7_offer_26 : decode cX7_offer 26 = .ok (.iconst 0, 1) := by decide +kernel
theorem dX7_offer_27 : decode cX7_offer 27 = .ok (.istore 5, 2) := by decide +kernel
theorem dX7_offer_29 : decode cX7_offer 29 = .ok (.iload 5, 2) := by decide +kernel
theorem dX7_offer_31 : decode cX7_offer 31 = .ok (.bipush 8, 2) := by decide +kernel
theorem dX7_offer_33 : decode cX7_offer 33 = .ok (.if_icmp .ge 72, 3) := by decide +kernel
theorem dX7_offer_36 : decode cX7_offer 36 = .ok (.iload_n 2, 1) := by decide +kernel
theorem dX7_offer_37 : decode cX7_offer 37 = .ok (.ifCond .eq 68, 3) := by decide +kernel
theorem dX7_offer_40 : decode cX7_offer 40 = .ok (.iconst 0, 1) := by decide +kernel
theorem dX7_offer_41 : decode cX7_offer 41 = .ok (.istore 6, 2) := by decide +kernel
theorem dX7_offer_43 : decode cX7_offer 43 = .ok (.iload 6, 2) := by decide +kernel
theorem dX7_offer_45 : decode cX7_offer 45 = .ok (.bipush 9, 2) := by decide +kernel
theorem dX7_offer_47 : decode cX7_offer 47 = .ok (.if_icmp .gt 52, 3) := by decide +kernel
theorem dX7_offer_50 : decode cX7_offer 50 = .ok (.iload_n 2, 1) := by decide +kernel
theorem dX7_offer_51 : decode cX7_offer 51 = .ok (.aload_n 0, 1) := by decide +kernel
theorem dX7_offer_52 : decode cX7_offer 52 = .ok (.iload 5, 2) := by decide +kernel
theorem dX7_offer_54 : decode cX7_offer 54 = .ok (.invokevirtual 180, 3) := by decide +kernel
theorem dX7_offer_57 : decode cX7_offer 57 = .ok (.iload 6, 2) := by decide +kernel
theorem dX7_offer_59 : decode cX7_offer 59 = .ok (.invokestatic 258, 3) := by decide +kernel
theorem dX7_offer_62 : decode cX7_offer 62 = .ok (.istore 7, 2) := by decide +kernel
theorem dX7_offer_64 : decode cX7_offer 64 = .ok (.iload 7, 2) := by decide +kernel
theorem dX7_offer_66 : decode cX7_offer 66 = .ok (.iload 4, 2) := by decide +kernel
theorem dX7_offer_68 : decode cX7_offer 68 = .ok (.if_icmp .ge 14, 3) := by decide +kernel
theorem dX7_offer_71 : decode cX7_offer 71 = .ok (.bipush 10, 2) := by decide +kernel
theorem dX7_offer_73 : decode cX7_offer 73 = .ok (.iload 5, 2) := by decide +kernel
theorem dX7_offer_75 : decode cX7_offer 75 = .ok (.imul, 1) := by decide +kernel
theorem dX7_offer_76 : decode cX7_offer 76 = .ok (.iload 6, 2) := by decide +kernel
theorem dX7_offer_78 : decode cX7_offer 78 = .ok (.iadd, 1) := by decide +kernel
theorem dX7_offer_79 : decode cX7_offer 79 = .ok (.goto 4, 3) := by decide +kernel
theorem dX7_offer_82 : decode cX7_offer 82 = .ok (.iload_n 3, 1) := by decide +kernel
theorem dX7_offer_83 : decode cX7_offer 83 = .ok (.istore_n 3, 1) := by decide +kernel
theorem dX7_offer_84 : decode cX7_offer 84 = .ok (.iload 4, 2) := by decide +kernel
theorem dX7_offer_86 : decode cX7_offer 86 = .ok (.iload 7, 2) := by decide +kernel
theorem dX7_offer_88 : decode cX7_offer 88 = .ok (.invokestatic 233, 3) := by decide +kernel
theorem dX7_offer_91 : decode cX7_offer 91 = .ok (.istore 4, 2) := by decide +kernel
theorem dX7_offer_93 : decode cX7_offer 93 = .ok (.iinc 6 1, 3) := by decide +kernel
theorem dX7_offer_96 : decode cX7_offer 96 = .ok (.goto (-53), 3) := by decide +kernel
theorem dX7_offer_99 : decode cX7_offer 99 = .ok (.iinc 5 1, 3) := by decide +kernel
theorem dX7_offer_102 : decode cX7_offer 102 = .ok (.goto (-73), 3) := by decide +kernel
theorem dX7_offer_105 : decode cX7_offer 105 = .ok (.iload_n 3, 1) := by decide +kernel
theorem dX7_offer_106 : decode cX7_offer 106 = .ok (.ireturn, 1) := by decide +kernel
theorem dX7_gets_0 : decode cX7_gets 0 = .ok (.iload_n 2, 1) := by decide +kernel
theorem dX7_gets_1 : decode cX7_gets 1 = .ok (.iload 4, 2) := by decide +kernel
theorem dX7_gets_3 : decode cX7_gets 3 = .ok (.if_icmp .ne 5, 3) := by decide +kernel
theorem dX7_gets_6 : decode cX7_gets 6 = .ok (.iconst 0, 1) := by decide +kernel
theorem dX7_gets_7 : decode cX7_gets 7 = .ok (.ireturn, 1) := by decide +kernel
theorem dX7_gets_8 : decode cX7_gets 8 = .ok (.iload 4, 2) := by decide +kernel
theorem dX7_gets_10 : decode cX7_gets 10 = .ok (.iload_n 2, 1) := by decide +kernel
theorem dX7_gets_11 : decode cX7_gets 11 = .ok (.if_icmp .ge 33, 3) := by decide +kernel
theorem dX7_gets_14 : decode cX7_gets 14 = .ok (.aload_n 0, 1) := by decide +kernel
theorem dX7_gets_15 : decode cX7_gets 15 = .ok (.getfield 20, 3) := by decide +kernel
theorem dX7_gets_18 : decode cX7_gets 18 = .ok (.iload 4, 2) := by decide +kernel
theorem dX7_gets_20 : decode cX7_gets 20 = .ok (.iaload, 1) := by decide +kernel
theorem dX7_gets_21 : decode cX7_gets 21 = .ok (.aload_n 0, 1) := by decide +kernel
theorem dX7_gets_22 : decode cX7_gets 22 = .ok (.getfield 23, 3) := by decide +kernel
theorem dX7_gets_25 : decode cX7_gets 25 = .ok (.iload_n 3, 1) := by decide +kernel
theorem dX7_gets_26 : decode cX7_gets 26 = .ok (.iaload, 1) := by decide +kernel
theorem dX7_gets_27 : decode cX7_gets 27 = .ok (.invokestatic 183, 3) := by decide +kernel
theorem dX7_gets_30 : decode cX7_gets 30 = .ok (.iadd, 1) := by decide +kernel
theorem dX7_gets_31 : decode cX7_gets 31 = .ok (.aload_n 0, 1) := by decide +kernel
theorem dX7_gets_32 : decode cX7_gets 32 = .ok (.getfield 20, 3) := by decide +kernel
theorem dX7_gets_35 : decode cX7_gets 35 = .ok (.iload_n 2, 1) := by decide +kernel
theorem dX7_gets_36 : decode cX7_gets 36 = .ok (.iaload, 1) := by decide +kernel
theorem dX7_gets_37 : decode cX7_gets 37 = .ok (.if_icmp .le 7, 3) := by decide +kernel
theorem dX7_gets_40 : decode cX7_gets 40 = .ok (.iconst 1, 1) := by decide +kernel
theorem dX7_gets_41 : decode cX7_gets 41 = .ok (.goto 4, 3) := by decide +kernel
theorem dX7_gets_44 : decode cX7_gets 44 = .ok (.iconst 0, 1) := by decide +kernel
theorem dX7_gets_45 : decode cX7_gets 45 = .ok (.istore 5, 2) := by decide +kernel
theorem dX7_gets_47 : decode cX7_gets 47 = .ok (.aload_n 0, 1) := by decide +kernel
theorem dX7_gets_48 : decode cX7_gets 48 = .ok (.getfield 23, 3) := by decide +kernel
theorem dX7_gets_51 : decode cX7_gets 51 = .ok (.iload_n 1, 1) := by decide +kernel
theorem dX7_gets_52 : decode cX7_gets 52 = .ok (.iaload, 1) := by decide +kernel
theorem dX7_gets_53 : decode cX7_gets 53 = .ok (.iload 5, 2) := by decide +kernel
theorem dX7_gets_55 : decode cX7_gets 55 = .ok (.ifCond .eq 7, 3) := by decide +kernel
theorem dX7_gets_58 : decode cX7_gets 58 = .ok (.iconst 0, 1) := by decide +kernel
theorem dX7_gets_59 : decode cX7_gets 59 = .ok (.goto 8, 3) := by decide +kernel
theorem dX7_gets_62 : decode cX7_gets 62 = .ok (.aload_n 0, 1) := by decide +kernel
theorem dX7_gets_63 : decode cX7_gets 63 = .ok (.iload_n 2, 1) := by decide +kernel
theorem dX7_gets_64 : decode cX7_gets 64 = .ok (.invokevirtual 180, 3) := by decide +kernel
theorem dX7_gets_67 : decode cX7_gets 67 = .ok (.aload_n 0, 1) := by decide +kernel
theorem dX7_gets_68 : decode cX7_gets 68 = .ok (.getfield 20, 3) := by decide +kernel
theorem dX7_gets_71 : decode cX7_gets 71 = .ok (.iload_n 2, 1) := by decide +kernel
theorem dX7_gets_72 : decode cX7_gets 72 = .ok (.iaload, 1) := by decide +kernel
theorem dX7_gets_73 : decode cX7_gets 73 = .ok (.invokestatic 189, 3) := by decide +kernel
theorem dX7_gets_76 : decode cX7_gets 76 = .ok (.ireturn, 1) := by decide +kernel
theorem dX7_rests_0 : decode cX7_rests 0 = .ok (.iconst 1, 1) := by decide +kernel
theorem dX7_rests_1 : decode cX7_rests 1 = .ok (.istore 5, 2) := by decide +kernel
theorem dX7_rests_3 : decode cX7_rests 3 = .ok (.iconst 0, 1) := by decide +kernel
theorem dX7_rests_4 : decode cX7_rests 4 = .ok (.istore 6, 2) := by decide +kernel
theorem dX7_rests_6 : decode cX7_rests 6 = .ok (.iload 6, 2) := by decide +kernel
theorem dX7_rests_8 : decode cX7_rests 8 = .ok (.bipush 8, 2) := by decide +kernel
theorem dX7_rests_10 : decode cX7_rests 10 = .ok (.if_icmp .ge 64, 3) := by decide +kernel
theorem dX7_rests_13 : decode cX7_rests 13 = .ok (.iload 5, 2) := by decide +kernel
theorem dX7_rests_15 : decode cX7_rests 15 = .ok (.ifCond .eq 50, 3) := by decide +kernel
theorem dX7_rests_18 : decode cX7_rests 18 = .ok (.aload_n 0, 1) := by decide +kernel
theorem dX7_rests_19 : decode cX7_rests 19 = .ok (.iload_n 1, 1) := by decide +kernel
theorem dX7_rests_20 : decode cX7_rests 20 = .ok (.iload_n 2, 1) := by decide +kernel
theorem dX7_rests_21 : decode cX7_rests 21 = .ok (.iload_n 3, 1) := by decide +kernel
theorem dX7_rests_22 : decode cX7_rests 22 = .ok (.iload 4, 2) := by decide +kernel
theorem dX7_rests_24 : decode cX7_rests 24 = .ok (.invokevirtual 261, 3) := by decide +kernel
theorem dX7_rests_27 : decode cX7_rests 27 = .ok (.aload_n 0, 1) := by decide +kernel
theorem dX7_rests_28 : decode cX7_rests 28 = .ok (.iload_n 1, 1) := by decide +kernel
theorem dX7_rests_29 : decode cX7_rests 29 = .ok (.iload 6, 2) := by decide +kernel
theorem dX7_rests_31 : decode cX7_rests 31 = .ok (.iload_n 3, 1) := by decide +kernel
theorem dX7_rests_32 : decode cX7_rests 32 = .ok (.iload 4, 2) := by decide +kernel
theorem dX7_rests_34 : decode cX7_rests 34 = .ok (.invokevirtual 261, 3) := by decide +kernel
theorem dX7_rests_37 : decode cX7_rests 37 = .ok (.if_icmp .lt 28, 3) := by decide +kernel
theorem dX7_rests_40 : decode cX7_rests 40 = .ok (.aload_n 0, 1) := by decide +kernel
theorem dX7_rests_41 : decode cX7_rests 41 = .ok (.iload_n 3, 1) := by decide +kernel
theorem dX7_rests_42 : decode cX7_rests 42 = .ok (.iload 4, 2) := by decide +kernel
theorem dX7_rests_44 : decode cX7_rests 44 = .ok (.iload_n 1, 1) := by decide +kernel
theorem dX7_rests_45 : decode cX7_rests 45 = .ok (.iload_n 2, 1) := by decide +kernel
theorem dX7_rests_46 : decode cX7_rests 46 = .ok (.invokevirtual 261, 3) := by decide +kernel
theorem dX7_rests_49 : decode cX7_rests 49 = .ok (.aload_n 0, 1) := by decide +kernel
theorem dX7_rests_50 : decode cX7_rests 50 = .ok (.iload_n 3, 1) := by decide +kernel
theorem dX7_rests_51 : decode cX7_rests 51 = .ok (.iload 6, 2) := by decide +kernel
theorem dX7_rests_53 : decode cX7_rests 53 = .ok (.iload_n 1, 1) := by decide +kernel
theorem dX7_rests_54 : decode cX7_rests 54 = .ok (.iload_n 2, 1) := by decide +kernel
theorem dX7_rests_55 : decode cX7_rests 55 = .ok (.invokevirtual 261, 3) := by decide +kernel
theorem dX7_rests_58 : decode cX7_rests 58 = .ok (.if_icmp .lt 7, 3) := by decide +kernel
theorem dX7_rests_61 : decode cX7_rests 61 = .ok (.iconst 1, 1) := by decide +kernel
theorem dX7_rests_62 : decode cX7_rests 62 = .ok (.goto 4, 3) := by decide +kernel
theorem dX7_rests_65 : decode cX7_rests 65 = .ok (.iconst 0, 1) := by decide +kernel
theorem dX7_rests_66 : decode cX7_rests 66 = .ok (.istore 5, 2) := by decide +kernel
theorem dX7_rests_68 : decode cX7_rests 68 = .ok (.iinc 6 1, 3) := by decide +kernel
theorem dX7_rests_71 : decode cX7_rests 71 = .ok (.goto (-65), 3) := by decide +kernel
theorem dX7_rests_74 : decode cX7_rests 74 = .ok (.iload 5, 2) := by decide +kernel
theorem dX7_rests_76 : decode cX7_rests 76 = .ok (.ireturn, 1) := by decide +kernel
theorem dX7_two_0 : decode cX7_two 0 = .ok (.aload_n 0, 1) := by decide +kernel
theorem dX7_two_1 : decode cX7_two 1 = .ok (.iload_n 1, 1) := by decide +kernel
theorem dX7_two_2 : decode cX7_two 2 = .ok (.invokevirtual 212, 3) := by decide +kernel
theorem dX7_two_5 : decode cX7_two 5 = .ok (.ifCond .eq 21, 3) := by decide +kernel
theorem dX7_two_8 : decode cX7_two 8 = .ok (.aload_n 0, 1) := by decide +kernel
theorem dX7_two_9 : decode cX7_two 9 = .ok (.iload_n 2, 1) := by decide +kernel
theorem dX7_two_10 : decode cX7_two 10 = .ok (.invokevirtual 212, 3) := by decide +kernel
theorem dX7_two_13 : decode cX7_two 13 = .ok (.ifCond .eq 13, 3) := by decide +kernel
theorem dX7_two_16 : decode cX7_two 16 = .ok (.iload_n 1, 1) := by decide +kernel
theorem dX7_two_17 : decode cX7_two 17 = .ok (.iload_n 2, 1) := by decide +kernel
theorem dX7_two_18 : decode cX7_two 18 = .ok (.if_icmp .eq 8, 3) := by decide +kernel
theorem dX7_two_21 : decode cX7_two 21 = .ok (.iload_n 3, 1) := by decide +kernel
theorem dX7_two_22 : decode cX7_two 22 = .ok (.iconst (-1), 1) := by decide +kernel
theorem dX7_two_23 : decode cX7_two 23 = .ok (.if_icmp .ge 8, 3) := by decide +kernel
theorem dX7_two_26 : decode cX7_two 26 = .ok (.aload_n 0, 1) := by decide +kernel
theorem dX7_two_27 : decode cX7_two 27 = .ok (.invokevirtual 221, 3) := by decide +kernel
theorem dX7_two_30 : decode cX7_two 30 = .ok (.ireturn, 1) := by decide +kernel
theorem dX7_two_31 : decode cX7_two 31 = .ok (.iconst 0, 1) := by decide +kernel
theorem dX7_two_32 : decode cX7_two 32 = .ok (.istore 4, 2) := by decide +kernel
theorem dX7_two_34 : decode cX7_two 34 = .ok (.bipush (-5), 2) := by decide +kernel
theorem dX7_two_36 : decode cX7_two 36 = .ok (.istore 5, 2) := by decide +kernel
theorem dX7_two_38 : decode cX7_two 38 = .ok (.iconst 0, 1) := by decide +kernel
theorem dX7_two_39 : decode cX7_two 39 = .ok (.istore 6, 2) := by decide +kernel
theorem dX7_two_41 : decode cX7_two 41 = .ok (.iload 6, 2) := by decide +kernel
theorem dX7_two_43 : decode cX7_two 43 = .ok (.bipush 8, 2) := by decide +kernel
theorem dX7_two_45 : decode cX7_two 45 = .ok (.if_icmp .ge 62, 3) := by decide +kernel
theorem dX7_two_48 : decode cX7_two 48 = .ok (.iconst 0, 1) := by decide +kernel
theorem dX7_two_49 : decode cX7_two 49 = .ok (.istore 7, 2) := by decide +kernel
theorem dX7_two_51 : decode cX7_two 51 = .ok (.iload 7, 2) := by decide +kernel
theorem dX7_two_53 : decode cX7_two 53 = .ok (.bipush 8, 2) := by decide +kernel
theorem dX7_two_55 : decode cX7_two 55 = .ok (.if_icmp .ge 46, 3) := by decide +kernel
theorem dX7_two_58 : decode cX7_two 58 = .ok (.aload_n 0, 1) := by decide +kernel
theorem dX7_two_59 : decode cX7_two 59 = .ok (.iload_n 1, 1) := by decide +kernel
theorem dX7_two_60 : decode cX7_two 60 = .ok (.iload 6, 2) := by decide +kernel
theorem dX7_two_62 : decode cX7_two 62 = .ok (.iload_n 2, 1) := by decide +kernel
theorem dX7_two_63 : decode cX7_two 63 = .ok (.iload 7, 2) := by decide +kernel
theorem dX7_two_65 : decode cX7_two 65 = .ok (.invokevirtual 265, 3) := by decide +kernel
theorem dX7_two_68 : decode cX7_two 68 = .ok (.ifCond .eq 27, 3) := by decide +kernel
theorem dX7_two_71 : decode cX7_two 71 = .ok (.iload 4, 2) := by decide +kernel
theorem dX7_two_73 : decode cX7_two 73 = .ok (.iload_n 3, 1) := by decide +kernel
theorem dX7_two_74 : decode cX7_two 74 = .ok (.if_icmp .ne 14, 3) := by decide +kernel
theorem dX7_two_77 : decode cX7_two 77 = .ok (.bipush 8, 2) := by decide +kernel
theorem dX7_two_79 : decode cX7_two 79 = .ok (.iload 6, 2) := by decide +kernel
theorem dX7_two_81 : decode cX7_two 81 = .ok (.imul, 1) := by decide +kernel
theorem dX7_two_82 : decode cX7_two 82 = .ok (.iload 7, 2) := by decide +kernel
theorem dX7_two_84 : decode cX7_two 84 = .ok (.iadd, 1) := by decide +kernel
theorem dX7_two_85 : decode cX7_two 85 = .ok (.goto 5, 3) := by decide +kernel
theorem dX7_two_88 : decode cX7_two 88 = .ok (.iload 5, 2) := by decide +kernel
theorem dX7_two_90 : decode cX7_two 90 = .ok (.istore 5, 2) := by decide +kernel
theorem dX7_two_92 : decode cX7_two 92 = .ok (.iinc 4 1, 3) := by decide +kernel
theorem dX7_two_95 : decode cX7_two 95 = .ok (.iinc 7 1, 3) := by decide +kernel
theorem dX7_two_98 : decode cX7_two 98 = .ok (.goto (-47), 3) := by decide +kernel
theorem dX7_two_101 : decode cX7_two 101 = .ok (.iinc 6 1, 3) := by decide +kernel
theorem dX7_two_104 : decode cX7_two 104 = .ok (.goto (-63), 3) := by decide +kernel
theorem dX7_two_107 : decode cX7_two 107 = .ok (.iload_n 3, 1) := by decide +kernel
theorem dX7_two_108 : decode cX7_two 108 = .ok (.iconst (-1), 1) := by decide +kernel
theorem dX7_two_109 : decode cX7_two 109 = .ok (.if_icmp .ne 8, 3) := by decide +kernel
theorem dX7_two_112 : decode cX7_two 112 = .ok (.iload 4, 2) := by decide +kernel
theorem dX7_two_114 : decode cX7_two 114 = .ok (.goto 5, 3) := by decide +kernel
theorem dX7_two_117 : decode cX7_two 117 = .ok (.iload 5, 2) := by decide +kernel
theorem dX7_two_119 : decode cX7_two 119 = .ok (.ireturn, 1) := by decide +kernel
theorem dX7_lay_0 : decode cX7_lay 0 = .ok (.lload_n 1, 1) := by decide +kernel
theorem dX7_lay_1 : decode cX7_lay 1 = .ok (.lstore 5, 2) := by decide +kernel
theorem dX7_lay_3 : decode cX7_lay 3 = .ok (.lload_n 3, 1) := by decide +kernel
theorem dX7_lay_4 : decode cX7_lay 4 = .ok (.lstore 7, 2) := by decide +kernel
theorem dX7_lay_6 : decode cX7_lay 6 = .ok (.lload 7, 2) := by decide +kernel
theorem dX7_lay_8 : decode cX7_lay 8 = .ok (.lconst 0, 1) := by decide +kernel
theorem dX7_lay_9 : decode cX7_lay 9 = .ok (.lcmp, 1) := by decide +kernel
theorem dX7_lay_10 : decode cX7_lay 10 = .ok (.ifCond .eq 21, 3) := by decide +kernel
theorem dX7_lay_13 : decode cX7_lay 13 = .ok (.lload 5, 2) := by decide +kernel
theorem dX7_lay_15 : decode cX7_lay 15 = .ok (.lload 7, 2) := by decide +kernel
theorem dX7_lay_17 : decode cX7_lay 17 = .ok (.lrem, 1) := by decide +kernel
theorem dX7_lay_18 : decode cX7_lay 18 = .ok (.lstore 9, 2) := by decide +kernel
theorem dX7_lay_20 : decode cX7_lay 20 = .ok (.lload 7, 2) := by decide +kernel
theorem dX7_lay_22 : decode cX7_lay 22 = .ok (.lstore 5, 2) := by decide +kernel
theorem dX7_lay_24 : decode cX7_lay 24 = .ok (.lload 9, 2) := by decide +kernel
theorem dX7_lay_26 : decode cX7_lay 26 = .ok (.lstore 7, 2) := by decide +kernel
theorem dX7_lay_28 : decode cX7_lay 28 = .ok (.goto (-22), 3) := by decide +kernel
theorem dX7_lay_31 : decode cX7_lay 31 = .ok (.aload_n 0, 1) := by decide +kernel
theorem dX7_lay_32 : decode cX7_lay 32 = .ok (.lload_n 1, 1) := by decide +kernel
theorem dX7_lay_33 : decode cX7_lay 33 = .ok (.lload 5, 2) := by decide +kernel
theorem dX7_lay_35 : decode cX7_lay 35 = .ok (.ldiv, 1) := by decide +kernel
theorem dX7_lay_36 : decode cX7_lay 36 = .ok (.putfield 268, 3) := by decide +kernel
theorem dX7_lay_39 : decode cX7_lay 39 = .ok (.aload_n 0, 1) := by decide +kernel
theorem dX7_lay_40 : decode cX7_lay 40 = .ok (.lload_n 3, 1) := by decide +kernel
theorem dX7_lay_41 : decode cX7_lay 41 = .ok (.lload 5, 2) := by decide +kernel
theorem dX7_lay_43 : decode cX7_lay 43 = .ok (.ldiv, 1) := by decide +kernel
theorem dX7_lay_44 : decode cX7_lay 44 = .ok (.putfield 65, 3) := by decide +kernel
theorem dX7_lay_47 : decode cX7_lay 47 = .ok (.return_, 1) := by decide +kernel
theorem dX7_clouds_0 : decode cX7_clouds 0 = .ok (.iload_n 1, 1) := by decide +kernel
theorem dX7_clouds_1 : decode cX7_clouds 1 = .ok (.iconst 0, 1) := by decide +kernel
theorem dX7_clouds_2 : decode cX7_clouds 2 = .ok (.bipush 10, 2) := by decide +kernel
theorem dX7_clouds_4 : decode cX7_clouds 4 = .ok (.invokestatic 88, 3) := by decide +kernel
theorem dX7_clouds_7 : decode cX7_clouds 7 = .ok (.ifCond .ne 8, 3) := by decide +kernel
theorem dX7_clouds_10 : decode cX7_clouds 10 = .ok (.aload_n 0, 1) := by decide +kernel
theorem dX7_clouds_11 : decode cX7_clouds 11 = .ok (.invokevirtual 96, 3) := by decide +kernel
theorem dX7_clouds_14 : decode cX7_clouds 14 = .ok (.ireturn, 1) := by decide +kernel
theorem dX7_clouds_15 : decode cX7_clouds 15 = .ok (.aload_n 0, 1) := by decide +kernel
theorem dX7_clouds_16 : decode cX7_clouds 16 = .ok (.aload_n 0, 1) := by decide +kernel
theorem dX7_clouds_17 : decode cX7_clouds 17 = .ok (.iconst (-1), 1) := by decide +kernel
theorem dX7_clouds_18 : decode cX7_clouds 18 = .ok (.invokevirtual 242, 3) := by decide +kernel
theorem dX7_clouds_21 : decode cX7_clouds 21 = .ok (.bipush 10, 2) := by decide +kernel
theorem dX7_clouds_23 : decode cX7_clouds 23 = .ok (.iload_n 1, 1) := by decide +kernel
theorem dX7_clouds_24 : decode cX7_clouds 24 = .ok (.isub, 1) := by decide +kernel
theorem dX7_clouds_25 : decode cX7_clouds 25 = .ok (.imul, 1) := by decide +kernel
theorem dX7_clouds_26 : decode cX7_clouds 26 = .ok (.i2l, 1) := by decide +kernel
theorem dX7_clouds_27 : decode cX7_clouds 27 = .ok (.ldc2_w 271, 3) := by decide +kernel
theorem dX7_clouds_30 : decode cX7_clouds 30 = .ok (.invokevirtual 273, 3) := by decide +kernel
theorem dX7_clouds_33 : decode cX7_clouds 33 = .ok (.iconst 1, 1) := by decide +kernel
theorem dX7_clouds_34 : decode cX7_clouds 34 = .ok (.ireturn, 1) := by decide +kernel
theorem dX7_eclipses_0 : decode cX7_eclipses 0 = .ok (.iload_n 1, 1) := by decide +kernel
theorem dX7_eclipses_1 : decode cX7_eclipses 1 = .ok (.iconst 0, 1) := by decide +kernel
theorem dX7_eclipses_2 : decode cX7_eclipses 2 = .ok (.ldc_w 277, 3) := by decide +kernel
theorem dX7_eclipses_5 : decode cX7_eclipses 5 = .ok (.invokestatic 88, 3) := by decide +kernel
theorem dX7_eclipses_8 : decode cX7_eclipses 8 = .ok (.ifCond .eq 13, 3) := by decide +kernel
theorem dX7_eclipses_11 : decode cX7_eclipses 11 = .ok (.iload_n 2, 1) := by decide +kernel
theorem dX7_eclipses_12 : decode cX7_eclipses 12 = .ok (.iconst 0, 1) := by decide +kernel
theorem dX7_eclipses_13 : decode cX7_eclipses 13 = .ok (.bipush 60, 2) := by decide +kernel
theorem dX7_eclipses_15 : decode cX7_eclipses 15 = .ok (.invokestatic 88, 3) := by decide +kernel
theorem dX7_eclipses_18 : decode cX7_eclipses 18 = .ok (.ifCond .ne 8, 3) := by decide +kernel
theorem dX7_eclipses_21 : decode cX7_eclipses 21 = .ok (.aload_n 0, 1) := by decide +kernel
theorem dX7_eclipses_22 : decode cX7_eclipses 22 = .ok (.invokevirtual 96, 3) := by decide +kernel
theorem dX7_eclipses_25 : decode cX7_eclipses 25 = .ok (.ireturn, 1) := by decide +kernel
theorem dX7_eclipses_26 : decode cX7_eclipses 26 = .ok (.aload_n 0, 1) := by decide +kernel
theorem dX7_eclipses_27 : decode cX7_eclipses 27 = .ok (.getfield 13, 3) := by decide +kernel
theorem dX7_eclipses_30 : decode cX7_eclipses 30 = .ok (.istore_n 3, 1) := by decide +kernel
theorem dX7_eclipses_31 : decode cX7_eclipses 31 = .ok (.aload_n 0, 1) := by decide +kernel
theorem dX7_eclipses_32 : decode cX7_eclipses 32 = .ok (.getfield 17, 3) := by decide +kernel
theorem dX7_eclipses_35 : decode cX7_eclipses 35 = .ok (.istore 4, 2) := by decide +kernel
theorem dX7_eclipses_37 : decode cX7_eclipses 37 = .ok (.iload_n 1, 1) := by decide +kernel
theorem dX7_eclipses_38 : decode cX7_eclipses 38 = .ok (.i2l, 1) := by decide +kernel
theorem dX7_eclipses_39 : decode cX7_eclipses 39 = .ok (.lstore 5, 2) := by decide +kernel
theorem dX7_eclipses_41 : decode cX7_eclipses 41 = .ok (.iconst 0, 1) := by decide +kernel
theorem dX7_eclipses_42 : decode cX7_eclipses 42 = .ok (.istore 7, 2) := by decide +kernel
theorem dX7_eclipses_44 : decode cX7_eclipses 44 = .ok (.iconst 0, 1) := by decide +kernel
theorem dX7_eclipses_45 : decode cX7_eclipses 45 = .ok (.istore 8, 2) := by decide +kernel
theorem dX7_eclipses_47 : decode cX7_eclipses 47 = .ok (.iload 8, 2) := by decide +kernel
theorem dX7_eclipses_49 : decode cX7_eclipses 49 = .ok (.iload_n 2, 1) := by decide +kernel
theorem dX7_eclipses_50 : decode cX7_eclipses 50 = .ok (.if_icmp .ge 65, 3) := by decide +kernel
theorem dX7_eclipses_53 : decode cX7_eclipses 53 = .ok (.lload 5, 2) := by decide +kernel
theorem dX7_eclipses_55 : decode cX7_eclipses 55 = .ok (.ldc2_w 278, 3) := by decide +kernel
theorem dX7_eclipses_58 : decode cX7_eclipses 58 = .ok (.lmul, 1) := by decide +kernel
theorem dX7_eclipses_59 : decode cX7_eclipses 59 = .ok (.ldc2_w 280, 3) := by decide +kernel
theorem dX7_eclipses_62 : decode cX7_eclipses 62 = .ok (.ladd, 1) := by decide +kernel
theorem dX7_eclipses_63 : decode cX7_eclipses 63 = .ok (.ldc2_w 282, 3) := by decide +kernel
theorem dX7_eclipses_66 : decode cX7_eclipses 66 = .ok (.lrem, 1) := by decide +kernel
theorem dX7_eclipses_67 : decode cX7_eclipses 67 = .ok (.lstore 5, 2) := by decide +kernel
theorem dX7_eclipses_69 : decode cX7_eclipses 69 = .ok (.aload_n 0, 1) := by decide +kernel
theorem dX7_eclipses_70 : decode cX7_eclipses 70 = .ok (.lload 5, 2) := by decide +kernel
theorem dX7_eclipses_72 : decode cX7_eclipses 72 = .ok (.ldc2_w 284, 3) := by decide +kernel
theorem dX7_eclipses_75 : decode cX7_eclipses 75 = .ok (.ldiv, 1) := by decide +kernel
theorem dX7_eclipses_76 : decode cX7_eclipses 76 = .ok (.ldc2_w 286, 3) := by decide +kernel
theorem dX7_eclipses_79 : decode cX7_eclipses 79 = .ok (.lrem, 1) := by decide +kernel
theorem dX7_eclipses_80 : decode cX7_eclipses 80 = .ok (.l2i, 1) := by decide +kernel
theorem dX7_eclipses_81 : decode cX7_eclipses 81 = .ok (.putfield 13, 3) := by decide +kernel
theorem dX7_eclipses_84 : decode cX7_eclipses 84 = .ok (.aload_n 0, 1) := by decide +kernel
theorem dX7_eclipses_85 : decode cX7_eclipses 85 = .ok (.lload 5, 2) := by decide +kernel
theorem dX7_eclipses_87 : decode cX7_eclipses 87 = .ok (.ldc2_w 288, 3) := by decide +kernel
theorem dX7_eclipses_90 : decode cX7_eclipses 90 = .ok (.ldiv, 1) := by decide +kernel
theorem dX7_eclipses_91 : decode cX7_eclipses 91 = .ok (.ldc2_w 290, 3) := by decide +kernel
theorem dX7_eclipses_94 : decode cX7_eclipses 94 = .ok (.lrem, 1) := by decide +kernel
theorem dX7_eclipses_95 : decode cX7_eclipses 95 = .ok (.l2i, 1) := by decide +kernel
theorem dX7_eclipses_96 : decode cX7_eclipses 96 = .ok (.putfield 17, 3) := by decide +kernel
theorem dX7_eclipses_99 : decode cX7_eclipses 99 = .ok (.iload 7, 2) := by decide +kernel
theorem dX7_eclipses_101 : decode cX7_eclipses 101 = .ok (.aload_n 0, 1) := by decide +kernel
theorem dX7_eclipses_102 : decode cX7_eclipses 102 = .ok (.iconst (-1), 1) := by decide +kernel
theorem dX7_eclipses_103 : decode cX7_eclipses 103 = .ok (.invokevirtual 242, 3) := by decide +kernel
theorem dX7_eclipses_106 : decode cX7_eclipses 106 = .ok (.iadd, 1) := by decide +kernel
theorem dX7_eclipses_107 : decode cX7_eclipses 107 = .ok (.istore 7, 2) := by decide +kernel
theorem dX7_eclipses_109 : decode cX7_eclipses 109 = .ok (.iinc 8 1, 3) := by decide +kernel
theorem dX7_eclipses_112 : decode cX7_eclipses 112 = .ok (.goto (-65), 3) := by decide +kernel
theorem dX7_eclipses_115 : decode cX7_eclipses 115 = .ok (.aload_n 0, 1) := by decide +kernel
theorem dX7_eclipses_116 : decode cX7_eclipses 116 = .ok (.iload_n 3, 1) := by decide +kernel
theorem dX7_eclipses_117 : decode cX7_eclipses 117 = .ok (.putfield 13, 3) := by decide +kernel
theorem dX7_eclipses_120 : decode cX7_eclipses 120 = .ok (.aload_n 0, 1) := by decide +kernel
theorem dX7_eclipses_121 : decode cX7_eclipses 121 = .ok (.iload 4, 2) := by decide +kernel
theorem dX7_eclipses_123 : decode cX7_eclipses 123 = .ok (.putfield 17, 3) := by decide +kernel
theorem dX7_eclipses_126 : decode cX7_eclipses 126 = .ok (.iload 7, 2) := by decide +kernel
theorem dX7_eclipses_128 : decode cX7_eclipses 128 = .ok (.ireturn, 1) := by decide +kernel
theorem dX7_part_0 : decode cX7_part 0 = .ok (.iload_n 1, 1) := by decide +kernel
theorem dX7_part_1 : decode cX7_part 1 = .ok (.ifCond .ne 10, 3) := by decide +kernel
theorem dX7_part_4 : decode cX7_part 4 = .ok (.aload_n 0, 1) := by decide +kernel
theorem dX7_part_5 : decode cX7_part 5 = .ok (.getfield 268, 3) := by decide +kernel
theorem dX7_part_8 : decode cX7_part 8 = .ok (.goto 20, 3) := by decide +kernel
theorem dX7_part_11 : decode cX7_part 11 = .ok (.iload_n 1, 1) := by decide +kernel
theorem dX7_part_12 : decode cX7_part 12 = .ok (.iconst 1, 1) := by decide +kernel
theorem dX7_part_13 : decode cX7_part 13 = .ok (.if_icmp .ne 10, 3) := by decide +kernel
theorem dX7_part_16 : decode cX7_part 16 = .ok (.aload_n 0, 1) := by decide +kernel
theorem dX7_part_17 : decode cX7_part 17 = .ok (.getfield 65, 3) := by decide +kernel
theorem dX7_part_20 : decode cX7_part 20 = .ok (.goto 8, 3) := by decide +kernel
theorem dX7_part_23 : decode cX7_part 23 = .ok (.aload_n 0, 1) := by decide +kernel
theorem dX7_part_24 : decode cX7_part 24 = .ok (.invokevirtual 96, 3) := by decide +kernel
theorem dX7_part_27 : decode cX7_part 27 = .ok (.i2l, 1) := by decide +kernel
theorem dX7_part_28 : decode cX7_part 28 = .ok (.lreturn, 1) := by decide +kernel
theorem dX7_image_0 : decode cX7_image 0 = .ok (.iload_n 1, 1) := by decide +kernel
theorem dX7_image_1 : decode cX7_image 1 = .ok (.iconst 0, 1) := by decide +kernel
theorem dX7_image_2 : decode cX7_image 2 = .ok (.iconst 1, 1) := by decide +kernel
theorem dX7_image_3 : decode cX7_image 3 = .ok (.invokestatic 88, 3) := by decide +kernel
theorem dX7_image_6 : decode cX7_image 6 = .ok (.ifCond .ne 8, 3) := by decide +kernel
theorem dX7_image_9 : decode cX7_image 9 = .ok (.aload_n 0, 1) := by decide +kernel
theorem dX7_image_10 : decode cX7_image 10 = .ok (.invokevirtual 96, 3) := by decide +kernel
theorem dX7_image_13 : decode cX7_image 13 = .ok (.ireturn, 1) := by decide +kernel
theorem dX7_image_14 : decode cX7_image 14 = .ok (.sipush 190, 3) := by decide +kernel
theorem dX7_image_17 : decode cX7_image 17 = .ok (.iload_n 1, 1) := by decide +kernel
theorem dX7_image_18 : decode cX7_image 18 = .ok (.imul, 1) := by decide +kernel
theorem dX7_image_19 : decode cX7_image 19 = .ok (.istore_n 2, 1) := by decide +kernel
theorem dX7_image_20 : decode cX7_image 20 = .ok (.aload_n 0, 1) := by decide +kernel
theorem dX7_image_21 : decode cX7_image 21 = .ok (.getfield 72, 3) := by decide +kernel
theorem dX7_image_24 : decode cX7_image 24 = .ok (.iload_n 1, 1) := by decide +kernel
theorem dX7_image_25 : decode cX7_image 25 = .ok (.iconst 1, 1) := by decide +kernel
theorem dX7_image_26 : decode cX7_image 26 = .ok (.iastore, 1) := by decide +kernel
theorem dX7_image_27 : decode cX7_image 27 = .ok (.aload_n 0, 1) := by decide +kernel
theorem dX7_image_28 : decode cX7_image 28 = .ok (.getfield 69, 3) := by decide +kernel
theorem dX7_image_31 : decode cX7_image 31 = .ok (.iload_n 2, 1) := by decide +kernel
theorem dX7_image_32 : decode cX7_image 32 = .ok (.aload_n 0, 1) := by decide +kernel
theorem dX7_image_33 : decode cX7_image 33 = .ok (.getfield 79, 3) := by decide +kernel
theorem dX7_image_36 : decode cX7_image 36 = .ok (.iastore, 1) := by decide +kernel
theorem dX7_image_37 : decode cX7_image 37 = .ok (.aload_n 0, 1) := by decide +kernel
theorem dX7_image_38 : decode cX7_image 38 = .ok (.getfield 69, 3) := by decide +kernel
theorem dX7_image_41 : decode cX7_image 41 = .ok (.iload_n 2, 1) := by decide +kernel
theorem dX7_image_42 : decode cX7_image 42 = .ok (.iconst 1, 1) := by decide +kernel
theorem dX7_image_43 : decode cX7_image 43 = .ok (.iadd, 1) := by decide +kernel
theorem dX7_image_44 : decode cX7_image 44 = .ok (.aload_n 0, 1) := by decide +kernel
theorem dX7_image_45 : decode cX7_image 45 = .ok (.getfield 13, 3) := by decide +kernel
theorem dX7_image_48 : decode cX7_image 48 = .ok (.iastore, 1) := by decide +kernel
theorem dX7_image_49 : decode cX7_image 49 = .ok (.aload_n 0, 1) := by decide +kernel
theorem dX7_image_50 : decode cX7_image 50 = .ok (.getfield 69, 3) := by decide +kernel
theorem dX7_image_53 : decode cX7_image 53 = .ok (.iload_n 2, 1) := by decide +kernel
theorem dX7_image_54 : decode cX7_image 54 = .ok (.iconst 2, 1) := by decide +kernel
theorem dX7_image_55 : decode cX7_image 55 = .ok (.iadd, 1) := by decide +kernel
theorem dX7_image_56 : decode cX7_image 56 = .ok (.aload_n 0, 1) := by decide +kernel
theorem dX7_image_57 : decode cX7_image 57 = .ok (.getfield 17, 3) := by decide +kernel
theorem dX7_image_60 : decode cX7_image 60 = .ok (.iastore, 1) := by decide +kernel
theorem dX7_image_61 : decode cX7_image 61 = .ok (.aload_n 0, 1) := by decide +kernel
theorem dX7_image_62 : decode cX7_image 62 = .ok (.getfield 69, 3) := by decide +kernel
theorem dX7_image_65 : decode cX7_image 65 = .ok (.iload_n 2, 1) := by decide +kernel
theorem dX7_image_66 : decode cX7_image 66 = .ok (.iconst 3, 1) := by decide +kernel
theorem dX7_image_67 : decode cX7_image 67 = .ok (.iadd, 1) := by decide +kernel
theorem dX7_image_68 : decode cX7_image 68 = .ok (.aload_n 0, 1) := by decide +kernel
theorem dX7_image_69 : decode cX7_image 69 = .ok (.getfield 82, 3) := by decide +kernel
theorem dX7_image_72 : decode cX7_image 72 = .ok (.iastore, 1) := by decide +kernel
theorem dX7_image_73 : decode cX7_image 73 = .ok (.aload_n 0, 1) := by decide +kernel
theorem dX7_image_74 : decode cX7_image 74 = .ok (.getfield 69, 3) := by decide +kernel
theorem dX7_image_77 : decode cX7_image 77 = .ok (.iload_n 2, 1) := by decide +kernel
theorem dX7_image_78 : decode cX7_image 78 = .ok (.iconst 4, 1) := by decide +kernel
theorem dX7_image_79 : decode cX7_image 79 = .ok (.iadd, 1) := by decide +kernel
theorem dX7_image_80 : decode cX7_image 80 = .ok (.aload_n 0, 1) := by decide +kernel
theorem dX7_image_81 : decode cX7_image 81 = .ok (.getfield 85, 3) := by decide +kernel
theorem dX7_image_84 : decode cX7_image 84 = .ok (.iastore, 1) := by decide +kernel
theorem dX7_image_85 : decode cX7_image 85 = .ok (.aload_n 0, 1) := by decide +kernel
theorem dX7_image_86 : decode cX7_image 86 = .ok (.aload_n 0, 1) := by decide +kernel
theorem dX7_image_87 : decode cX7_image 87 = .ok (.getfield 69, 3) := by decide +kernel
theorem dX7_image_90 : decode cX7_image 90 = .ok (.iload_n 2, 1) := by decide +kernel
theorem dX7_image_91 : decode cX7_image 91 = .ok (.iconst 5, 1) := by decide +kernel
theorem dX7_image_92 : decode cX7_image 92 = .ok (.iadd, 1) := by decide +kernel
theorem dX7_image_93 : decode cX7_image 93 = .ok (.invokevirtual 196, 3) := by decide +kernel
theorem dX7_image_96 : decode cX7_image 96 = .ok (.iconst 0, 1) := by decide +kernel
theorem dX7_image_97 : decode cX7_image 97 = .ok (.istore_n 3, 1) := by decide +kernel
theorem dX7_image_98 : decode cX7_image 98 = .ok (.iload_n 3, 1) := by decide +kernel
theorem dX7_image_99 : decode cX7_image 99 = .ok (.iconst 5, 1) := by decide +kernel
theorem dX7_image_100 : decode cX7_image 100 = .ok (.if_icmp .ge 26, 3) := by decide +kernel
theorem dX7_image_103 : decode cX7_image 103 = .ok (.aload_n 0, 1) := by decide +kernel
theorem dX7_image_104 : decode cX7_image 104 = .ok (.getfield 69, 3) := by decide +kernel
theorem dX7_image_107 : decode cX7_image 107 = .ok (.iload_n 2, 1) := by decide +kernel
theorem dX7_image_108 : decode cX7_image 108 = .ok (.bipush 20, 2) := by decide +kernel
theorem dX7_image_110 : decode cX7_image 110 = .ok (.iadd, 1) := by decide +kernel
theorem dX7_image_111 : decode cX7_image 111 = .ok (.iload_n 3, 1) := by decide +kernel
theorem dX7_image_112 : decode cX7_image 112 = .ok (.iadd, 1) := by decide +kernel
theorem dX7_image_113 : decode cX7_image 113 = .ok (.aload_n 0, 1) := by decide +kernel
theorem dX7_image_114 : decode cX7_image 114 = .ok (.getfield 23, 3) := by decide +kernel
theorem dX7_image_117 : decode cX7_image 117 = .ok (.iload_n 3, 1) := by decide +kernel
theorem dX7_image_118 : decode cX7_image 118 = .ok (.iaload, 1) := by decide +kernel
theorem dX7_image_119 : decode cX7_image 119 = .ok (.iastore, 1) := by decide +kernel
theorem dX7_image_120 : decode cX7_image 120 = .ok (.iinc 3 1, 3) := by decide +kernel
theorem dX7_image_123 : decode cX7_image 123 = .ok (.goto (-25), 3) := by decide +kernel
theorem dX7_image_126 : decode cX7_image 126 = .ok (.iconst 0, 1) := by decide +kernel
theorem dX7_image_127 : decode cX7_image 127 = .ok (.istore_n 3, 1) := by decide +kernel
theorem dX7_image_128 : decode cX7_image 128 = .ok (.iload_n 3, 1) := by decide +kernel
theorem dX7_image_129 : decode cX7_image 129 = .ok (.bipush 8, 2) := by decide +kernel
theorem dX7_image_131 : decode cX7_image 131 = .ok (.if_icmp .ge 26, 3) := by decide +kernel
theorem dX7_image_134 : decode cX7_image 134 = .ok (.aload_n 0, 1) := by decide +kernel
theorem dX7_image_135 : decode cX7_image 135 = .ok (.getfield 69, 3) := by decide +kernel
theorem dX7_image_138 : decode cX7_image 138 = .ok (.iload_n 2, 1) := by decide +kernel
theorem dX7_image_139 : decode cX7_image 139 = .ok (.bipush 25, 2) := by decide +kernel
theorem dX7_image_141 : decode cX7_image 141 = .ok (.iadd, 1) := by decide +kernel
theorem dX7_image_142 : decode cX7_image 142 = .ok (.iload_n 3, 1) := by decide +kernel
theorem dX7_image_143 : decode cX7_image 143 = .ok (.iadd, 1) := by decide +kernel
theorem dX7_image_144 : decode cX7_image 144 = .ok (.aload_n 0, 1) := by decide +kernel
theorem dX7_image_145 : decode cX7_image 145 = .ok (.getfield 20, 3) := by decide +kernel
theorem dX7_image_148 : decode cX7_image 148 = .ok (.iload_n 3, 1) := by decide +kernel
theorem dX7_image_149 : decode cX7_image 149 = .ok (.iaload, 1) := by decide +kernel
theorem dX7_image_150 : decode cX7_image 150 = .ok (.iastore, 1) := by decide +kernel
theorem dX7_image_151 : decode cX7_image 151 = .ok (.iinc 3 1, 3) := by decide +kernel
theorem dX7_image_154 : decode cX7_image 154 = .ok (.goto (-26), 3) := by decide +kernel
theorem dX7_image_157 : decode cX7_image 157 = .ok (.iconst 0, 1) := by decide +kernel
theorem dX7_image_158 : decode cX7_image 158 = .ok (.istore_n 3, 1) := by decide +kernel
theorem dX7_image_159 : decode cX7_image 159 = .ok (.iload_n 3, 1) := by decide +kernel
theorem dX7_image_160 : decode cX7_image 160 = .ok (.bipush 6, 2) := by decide +kernel
theorem dX7_image_162 : decode cX7_image 162 = .ok (.if_icmp .ge 77, 3) := by decide +kernel
theorem dX7_image_165 : decode cX7_image 165 = .ok (.aload_n 0, 1) := by decide +kernel
theorem dX7_image_166 : decode cX7_image 166 = .ok (.getfield 69, 3) := by decide +kernel
theorem dX7_image_169 : decode cX7_image 169 = .ok (.iload_n 2, 1) := by decide +kernel
theorem dX7_image_170 : decode cX7_image 170 = .ok (.bipush 33, 2) := by decide +kernel
theorem dX7_image_172 : decode cX7_image 172 = .ok (.iadd, 1) := by decide +kernel
theorem dX7_image_173 : decode cX7_image 173 = .ok (.iload_n 3, 1) := by decide +kernel
theorem dX7_image_174 : decode cX7_image 174 = .ok (.iadd, 1) := by decide +kernel
theorem dX7_image_175 : decode cX7_image 175 = .ok (.aload_n 0, 1) := by decide +kernel
theorem dX7_image_176 : decode cX7_image 176 = .ok (.getfield 35, 3) := by decide +kernel
theorem dX7_image_179 : decode cX7_image 179 = .ok (.iload_n 3, 1) := by decide +kernel
theorem dX7_image_180 : decode cX7_image 180 = .ok (.iaload, 1) := by decide +kernel
theorem dX7_image_181 : decode cX7_image 181 = .ok (.iastore, 1) := by decide +kernel
theorem dX7_image_182 : decode cX7_image 182 = .ok (.aload_n 0, 1) := by decide +kernel
theorem dX7_image_183 : decode cX7_image 183 = .ok (.getfield 69, 3) := by decide +kernel
theorem dX7_image_186 : decode cX7_image 186 = .ok (.iload_n 2, 1) := by decide +kernel
theorem dX7_image_187 : decode cX7_image 187 = .ok (.bipush 39, 2) := by decide +kernel
theorem dX7_image_189 : decode cX7_image 189 = .ok (.iadd, 1) := by decide +kernel
theorem dX7_image_190 : decode cX7_image 190 = .ok (.iload_n 3, 1) := by decide +kernel
theorem dX7_image_191 : decode cX7_image 191 = .ok (.iadd, 1) := by decide +kernel
theorem dX7_image_192 : decode cX7_image 192 = .ok (.aload_n 0, 1) := by decide +kernel
theorem dX7_image_193 : decode cX7_image 193 = .ok (.getfield 38, 3) := by decide +kernel
theorem dX7_image_196 : decode cX7_image 196 = .ok (.iload_n 3, 1) := by decide +kernel
theorem dX7_image_197 : decode cX7_image 197 = .ok (.iaload, 1) := by decide +kernel
theorem dX7_image_198 : decode cX7_image 198 = .ok (.iastore, 1) := by decide +kernel
theorem dX7_image_199 : decode cX7_image 199 = .ok (.aload_n 0, 1) := by decide +kernel
theorem dX7_image_200 : decode cX7_image 200 = .ok (.getfield 69, 3) := by decide +kernel
theorem dX7_image_203 : decode cX7_image 203 = .ok (.iload_n 2, 1) := by decide +kernel
theorem dX7_image_204 : decode cX7_image 204 = .ok (.bipush 45, 2) := by decide +kernel
theorem dX7_image_206 : decode cX7_image 206 = .ok (.iadd, 1) := by decide +kernel
theorem dX7_image_207 : decode cX7_image 207 = .ok (.iload_n 3, 1) := by decide +kernel
theorem dX7_image_208 : decode cX7_image 208 = .ok (.iadd, 1) := by decide +kernel
theorem dX7_image_209 : decode cX7_image 209 = .ok (.aload_n 0, 1) := by decide +kernel
theorem dX7_image_210 : decode cX7_image 210 = .ok (.getfield 41, 3) := by decide +kernel
theorem dX7_image_213 : decode cX7_image 213 = .ok (.iload_n 3, 1) := by decide +kernel
theorem dX7_image_214 : decode cX7_image 214 = .ok (.iaload, 1) := by decide +kernel
theorem dX7_image_215 : decode cX7_image 215 = .ok (.iastore, 1) := by decide +kernel
theorem dX7_image_216 : decode cX7_image 216 = .ok (.aload_n 0, 1) := by decide +kernel
theorem dX7_image_217 : decode cX7_image 217 = .ok (.getfield 69, 3) := by decide +kernel
theorem dX7_image_220 : decode cX7_image 220 = .ok (.iload_n 2, 1) := by decide +kernel
theorem dX7_image_221 : decode cX7_image 221 = .ok (.bipush 51, 2) := by decide +kernel
theorem dX7_image_223 : decode cX7_image 223 = .ok (.iadd, 1) := by decide +kernel
theorem dX7_image_224 : decode cX7_image 224 = .ok (.iload_n 3, 1) := by decide +kernel
theorem dX7_image_225 : decode cX7_image 225 = .ok (.iadd, 1) := by decide +kernel
theorem dX7_image_226 : decode cX7_image 226 = .ok (.aload_n 0, 1) := by decide +kernel
theorem dX7_image_227 : decode cX7_image 227 = .ok (.getfield 44, 3) := by decide +kernel
theorem dX7_image_230 : decode cX7_image 230 = .ok (.iload_n 3, 1) := by decide +kernel
theorem dX7_image_231 : decode cX7_image 231 = .ok (.iaload, 1) := by decide +kernel
theorem dX7_image_232 : decode cX7_image 232 = .ok (.iastore, 1) := by decide +kernel
theorem dX7_image_233 : decode cX7_image 233 = .ok (.iinc 3 1, 3) := by decide +kernel
theorem dX7_image_236 : decode cX7_image 236 = .ok (.goto (-77), 3) := by decide +kernel
theorem dX7_image_239 : decode cX7_image 239 = .ok (.iconst 0, 1) := by decide +kernel
theorem dX7_image_240 : decode cX7_image 240 = .ok (.istore_n 3, 1) := by decide +kernel
theorem dX7_image_241 : decode cX7_image 241 = .ok (.iload_n 3, 1) := by decide +kernel
theorem dX7_image_242 : decode cX7_image 242 = .ok (.bipush 120, 2) := by decide +kernel
theorem dX7_image_244 : decode cX7_image 244 = .ok (.if_icmp .ge 26, 3) := by decide +kernel
theorem dX7_image_247 : decode cX7_image 247 = .ok (.aload_n 0, 1) := by decide +kernel
theorem dX7_image_248 : decode cX7_image 248 = .ok (.getfield 69, 3) := by decide +kernel
theorem dX7_image_251 : decode cX7_image 251 = .ok (.iload_n 2, 1) := by decide +kernel
theorem dX7_image_252 : decode cX7_image 252 = .ok (.bipush 57, 2) := by decide +kernel
theorem dX7_image_254 : decode cX7_image 254 = .ok (.iadd, 1) := by decide +kernel
theorem dX7_image_255 : decode cX7_image 255 = .ok (.iload_n 3, 1) := by decide +kernel
theorem dX7_image_256 : decode cX7_image 256 = .ok (.iadd, 1) := by decide +kernel
theorem dX7_image_257 : decode cX7_image 257 = .ok (.aload_n 0, 1) := by decide +kernel
theorem dX7_image_258 : decode cX7_image 258 = .ok (.getfield 56, 3) := by decide +kernel
theorem dX7_image_261 : decode cX7_image 261 = .ok (.iload_n 3, 1) := by decide +kernel
theorem dX7_image_262 : decode cX7_image 262 = .ok (.iaload, 1) := by decide +kernel
theorem dX7_image_263 : decode cX7_image 263 = .ok (.iastore, 1) := by decide +kernel
theorem dX7_image_264 : decode cX7_image 264 = .ok (.iinc 3 1, 3) := by decide +kernel
theorem dX7_image_267 : decode cX7_image 267 = .ok (.goto (-26), 3) := by decide +kernel
theorem dX7_image_270 : decode cX7_image 270 = .ok (.iconst 1, 1) := by decide +kernel
theorem dX7_image_271 : decode cX7_image 271 = .ok (.ireturn, 1) := by decide +kernel
theorem dX7_from_0 : decode cX7_from 0 = .ok (.iload_n 1, 1) := by decide +kernel
theorem dX7_from_1 : decode cX7_from 1 = .ok (.iconst 0, 1) := by decide +kernel
theorem dX7_from_2 : decode cX7_from 2 = .ok (.iconst 1, 1) := by decide +kernel
theorem dX7_from_3 : decode cX7_from 3 = .ok (.invokestatic 88, 3) := by decide +kernel
theorem dX7_from_6 : decode cX7_from 6 = .ok (.ifCond .ne 8, 3) := by decide +kernel
theorem dX7_from_9 : decode cX7_from 9 = .ok (.aload_n 0, 1) := by decide +kernel
theorem dX7_from_10 : decode cX7_from 10 = .ok (.invokevirtual 96, 3) := by decide +kernel
theorem dX7_from_13 : decode cX7_from 13 = .ok (.ireturn, 1) := by decide +kernel
theorem dX7_from_14 : decode cX7_from 14 = .ok (.aload_n 0, 1) := by decide +kernel
theorem dX7_from_15 : decode cX7_from 15 = .ok (.getfield 72, 3) := by decide +kernel
theorem dX7_from_18 : decode cX7_from 18 = .ok (.iload_n 1, 1) := by decide +kernel
theorem dX7_from_19 : decode cX7_from 19 = .ok (.iaload, 1) := by decide +kernel
theorem dX7_from_20 : decode cX7_from 20 = .ok (.ifCond .ne 8, 3) := by decide +kernel
theorem dX7_from_23 : decode cX7_from 23 = .ok (.aload_n 0, 1) := by decide +kernel
theorem dX7_from_24 : decode cX7_from 24 = .ok (.invokevirtual 203, 3) := by decide +kernel
theorem dX7_from_27 : decode cX7_from 27 = .ok (.ireturn, 1) := by decide +kernel
theorem dX7_from_28 : decode cX7_from 28 = .ok (.sipush 190, 3) := by decide +kernel
theorem dX7_from_31 : decode cX7_from 31 = .ok (.iload_n 1, 1) := by decide +kernel
theorem dX7_from_32 : decode cX7_from 32 = .ok (.imul, 1) := by decide +kernel
theorem dX7_from_33 : decode cX7_from 33 = .ok (.istore_n 2, 1) := by decide +kernel
theorem dX7_from_34 : decode cX7_from 34 = .ok (.aload_n 0, 1) := by decide +kernel
theorem dX7_from_35 : decode cX7_from 35 = .ok (.aload_n 0, 1) := by decide +kernel
theorem dX7_from_36 : decode cX7_from 36 = .ok (.getfield 69, 3) := by decide +kernel
theorem dX7_from_39 : decode cX7_from 39 = .ok (.iload_n 2, 1) := by decide +kernel
theorem dX7_from_40 : decode cX7_from 40 = .ok (.iaload, 1) := by decide +kernel
theorem dX7_from_41 : decode cX7_from 41 = .ok (.putfield 79, 3) := by decide +kernel
theorem dX7_from_44 : decode cX7_from 44 = .ok (.aload_n 0, 1) := by decide +kernel
theorem dX7_from_45 : decode cX7_from 45 = .ok (.aload_n 0, 1) := by decide +kernel
theorem dX7_from_46 : decode cX7_from 46 = .ok (.getfield 69, 3) := by decide +kernel
theorem dX7_from_49 : decode cX7_from 49 = .ok (.iload_n 2, 1) := by decide +kernel
theorem dX7_from_50 : decode cX7_from 50 = .ok (.iconst 1, 1) := by decide +kernel
theorem dX7_from_51 : decode cX7_from 51 = .ok (.iadd, 1) := by decide +kernel
theorem dX7_from_52 : decode cX7_from 52 = .ok (.iaload, 1) := by decide +kernel
theorem dX7_from_53 : decode cX7_from 53 = .ok (.putfield 13, 3) := by decide +kernel
theorem dX7_from_56 : decode cX7_from 56 = .ok (.aload_n 0, 1) := by decide +kernel
theorem dX7_from_57 : decode cX7_from 57 = .ok (.aload_n 0, 1) := by decide +kernel
theorem dX7_from_58 : decode cX7_from 58 = .ok (.getfield 69, 3) := by decide +kernel
theorem dX7_from_61 : decode cX7_from 61 = .ok (.iload_n 2, 1) := by decide +kernel
theorem dX7_from_62 : decode cX7_from 62 = .ok (.iconst 2, 1) := by decide +kernel
theorem dX7_from_63 : decode cX7_from 63 = .ok (.iadd, 1) := by decide +kernel
theorem dX7_from_64 : decode cX7_from 64 = .ok (.iaload, 1) := by decide +kernel
theorem dX7_from_65 : decode cX7_from 65 = .ok (.putfield 17, 3) := by decide +kernel
theorem dX7_from_68 : decode cX7_from 68 = .ok (.aload_n 0, 1) := by decide +kernel
theorem dX7_from_69 : decode cX7_from 69 = .ok (.aload_n 0, 1) := by decide +kernel
theorem dX7_from_70 : decode cX7_from 70 = .ok (.getfield 69, 3) := by decide +kernel
theorem dX7_from_73 : decode cX7_from 73 = .ok (.iload_n 2, 1) := by decide +kernel
theorem dX7_from_74 : decode cX7_from 74 = .ok (.iconst 3, 1) := by decide +kernel
theorem dX7_from_75 : decode cX7_from 75 = .ok (.iadd, 1) := by decide +kernel
theorem dX7_from_76 : decode cX7_from 76 = .ok (.iaload, 1) := by decide +kernel
theorem dX7_from_77 : decode cX7_from 77 = .ok (.putfield 82, 3) := by decide +kernel
theorem dX7_from_80 : decode cX7_from 80 = .ok (.aload_n 0, 1) := by decide +kernel
theorem dX7_from_81 : decode cX7_from 81 = .ok (.aload_n 0, 1) := by decide +kernel
theorem dX7_from_82 : decode cX7_from 82 = .ok (.getfield 69, 3) := by decide +kernel
theorem dX7_from_85 : decode cX7_from 85 = .ok (.iload_n 2, 1) := by decide +kernel
theorem dX7_from_86 : decode cX7_from 86 = .ok (.iconst 4, 1) := by decide +kernel
theorem dX7_from_87 : decode cX7_from 87 = .ok (.iadd, 1) := by decide +kernel
theorem dX7_from_88 : decode cX7_from 88 = .ok (.iaload, 1) := by decide +kernel
theorem dX7_from_89 : decode cX7_from 89 = .ok (.putfield 85, 3) := by decide +kernel
theorem dX7_from_92 : decode cX7_from 92 = .ok (.aload_n 0, 1) := by decide +kernel
theorem dX7_from_93 : decode cX7_from 93 = .ok (.aload_n 0, 1) := by decide +kernel
theorem dX7_from_94 : decode cX7_from 94 = .ok (.getfield 69, 3) := by decide +kernel
theorem dX7_from_97 : decode cX7_from 97 = .ok (.iload_n 2, 1) := by decide +kernel
theorem dX7_from_98 : decode cX7_from 98 = .ok (.iconst 5, 1) := by decide +kernel
theorem dX7_from_99 : decode cX7_from 99 = .ok (.iadd, 1) := by decide +kernel
theorem dX7_from_100 : decode cX7_from 100 = .ok (.invokevirtual 215, 3) := by decide +kernel
theorem dX7_from_103 : decode cX7_from 103 = .ok (.iconst 0, 1) := by decide +kernel
theorem dX7_from_104 : decode cX7_from 104 = .ok (.istore_n 3, 1) := by decide +kernel
theorem dX7_from_105 : decode cX7_from 105 = .ok (.iload_n 3, 1) := by decide +kernel
theorem dX7_from_106 : decode cX7_from 106 = .ok (.iconst 5, 1) := by decide +kernel
theorem dX7_from_107 : decode cX7_from 107 = .ok (.if_icmp .ge 26, 3) := by decide +kernel
theorem dX7_from_110 : decode cX7_from 110 = .ok (.aload_n 0, 1) := by decide +kernel
theorem dX7_from_111 : decode cX7_from 111 = .ok (.getfield 23, 3) := by decide +kernel
theorem dX7_from_114 : decode cX7_from 114 = .ok (.iload_n 3, 1) := by decide +kernel
theorem dX7_from_115 : decode cX7_from 115 = .ok (.aload_n 0, 1) := by decide +kernel
theorem dX7_from_116 : decode cX7_from 116 = .ok (.getfield 69, 3) := by decide +kernel
theorem dX7_from_119 : decode cX7_from 119 = .ok (.iload_n 2, 1) := by decide +kernel
theorem dX7_from_120 : decode cX7_from 120 = .ok (.bipush 20, 2) := by decide +kernel
theorem dX7_from_122 : decode cX7_from 122 = .ok (.iadd, 1) := by decide +kernel
theorem dX7_from_123 : decode cX7_from 123 = .ok (.iload_n 3, 1) := by decide +kernel
theorem dX7_from_124 : decode cX7_from 124 = .ok (.iadd, 1) := by decide +kernel
theorem dX7_from_125 : decode cX7_from 125 = .ok (.iaload, 1) := by decide +kernel
theorem dX7_from_126 : decode cX7_from 126 = .ok (.iastore, 1) := by decide +kernel
theorem dX7_from_127 : decode cX7_from 127 = .ok (.iinc 3 1, 3) := by decide +kernel
theorem dX7_from_130 : decode cX7_from 130 = .ok (.goto (-25), 3) := by decide +kernel
theorem dX7_from_133 : decode cX7_from 133 = .ok (.iconst 0, 1) := by decide +kernel
theorem dX7_from_134 : decode cX7_from 134 = .ok (.istore_n 3, 1) := by decide +kernel
theorem dX7_from_135 : decode cX7_from 135 = .ok (.iload_n 3, 1) := by decide +kernel
theorem dX7_from_136 : decode cX7_from 136 = .ok (.bipush 8, 2) := by decide +kernel
theorem dX7_from_138 : decode cX7_from 138 = .ok (.if_icmp .ge 26, 3) := by decide +kernel
theorem dX7_from_141 : decode cX7_from 141 = .ok (.aload_n 0, 1) := by decide +kernel
theorem dX7_from_142 : decode cX7_from 142 = .ok (.getfield 20, 3) := by decide +kernel
theorem dX7_from_145 : decode cX7_from 145 = .ok (.iload_n 3, 1) := by decide +kernel
theorem dX7_from_146 : decode cX7_from 146 = .ok (.aload_n 0, 1) := by decide +kernel
theorem dX7_from_147 : decode cX7_from 147 = .ok (.getfield 69, 3) := by decide +kernel
theorem dX7_from_150 : decode cX7_from 150 = .ok (.iload_n 2, 1) := by decide +kernel
theorem dX7_from_151 : decode cX7_from 151 = .ok (.bipush 25, 2) := by decide +kernel
theorem dX7_from_153 : decode cX7_from 153 = .ok (.iadd, 1) := by decide +kernel
theorem dX7_from_154 : decode cX7_from 154 = .ok (.iload_n 3, 1) := by decide +kernel
theorem dX7_from_155 : decode cX7_from 155 = .ok (.iadd, 1) := by decide +kernel
theorem dX7_from_156 : decode cX7_from 156 = .ok (.iaload, 1) := by decide +kernel
theorem dX7_from_157 : decode cX7_from 157 = .ok (.iastore, 1) := by decide +kernel
theorem dX7_from_158 : decode cX7_from 158 = .ok (.iinc 3 1, 3) := by decide +kernel
theorem dX7_from_161 : decode cX7_from 161 = .ok (.goto (-26), 3) := by decide +kernel
theorem dX7_from_164 : decode cX7_from 164 = .ok (.iconst 0, 1) := by decide +kernel
theorem dX7_from_165 : decode cX7_from 165 = .ok (.istore_n 3, 1) := by decide +kernel
theorem dX7_from_166 : decode cX7_from 166 = .ok (.iload_n 3, 1) := by decide +kernel
theorem dX7_from_167 : decode cX7_from 167 = .ok (.bipush 6, 2) := by decide +kernel
theorem dX7_from_169 : decode cX7_from 169 = .ok (.if_icmp .ge 77, 3) := by decide +kernel
theorem dX7_from_172 : decode cX7_from 172 = .ok (.aload_n 0, 1) := by decide +kernel
theorem dX7_from_173 : decode cX7_from 173 = .ok (.getfield 35, 3) := by decide +kernel
theorem dX7_from_176 : decode cX7_from 176 = .ok (.iload_n 3, 1) := by decide +kernel
theorem dX7_from_177 : decode cX7_from 177 = .ok (.aload_n 0, 1) := by decide +kernel
theorem dX7_from_178 : decode cX7_from 178 = .ok (.getfield 69, 3) := by decide +kernel
theorem dX7_from_181 : decode cX7_from 181 = .ok (.iload_n 2, 1) := by decide +kernel
theorem dX7_from_182 : decode cX7_from 182 = .ok (.bipush 33, 2) := by decide +kernel
theorem dX7_from_184 : decode cX7_from 184 = .ok (.iadd, 1) := by decide +kernel
theorem dX7_from_185 : decode cX7_from 185 = .ok (.iload_n 3, 1) := by decide +kernel
theorem dX7_from_186 : decode cX7_from 186 = .ok (.iadd, 1) := by decide +kernel
theorem dX7_from_187 : decode cX7_from 187 = .ok (.iaload, 1) := by decide +kernel
theorem dX7_from_188 : decode cX7_from 188 = .ok (.iastore, 1) := by decide +kernel
theorem dX7_from_189 : decode cX7_from 189 = .ok (.aload_n 0, 1) := by decide +kernel
theorem dX7_from_190 : decode cX7_from 190 = .ok (.getfield 38, 3) := by decide +kernel
theorem dX7_from_193 : decode cX7_from 193 = .ok (.iload_n 3, 1) := by decide +kernel
theorem dX7_from_194 : decode cX7_from 194 = .ok (.aload_n 0, 1) := by decide +kernel
theorem dX7_from_195 : decode cX7_from 195 = .ok (.getfield 69, 3) := by decide +kernel
theorem dX7_from_198 : decode cX7_from 198 = .ok (.iload_n 2, 1) := by decide +kernel
theorem dX7_from_199 : decode cX7_from 199 = .ok (.bipush 39, 2) := by decide +kernel
theorem dX7_from_201 : decode cX7_from 201 = .ok (.iadd, 1) := by decide +kernel
theorem dX7_from_202 : decode cX7_from 202 = .ok (.iload_n 3, 1) := by decide +kernel
theorem dX7_from_203 : decode cX7_from 203 = .ok (.iadd, 1) := by decide +kernel
theorem dX7_from_204 : decode cX7_from 204 = .ok (.iaload, 1) := by decide +kernel
theorem dX7_from_205 : decode cX7_from 205 = .ok (.iastore, 1) := by decide +kernel
theorem dX7_from_206 : decode cX7_from 206 = .ok (.aload_n 0, 1) := by decide +kernel
theorem dX7_from_207 : decode cX7_from 207 = .ok (.getfield 41, 3) := by decide +kernel
theorem dX7_from_210 : decode cX7_from 210 = .ok (.iload_n 3, 1) := by decide +kernel
theorem dX7_from_211 : decode cX7_from 211 = .ok (.aload_n 0, 1) := by decide +kernel
theorem dX7_from_212 : decode cX7_from 212 = .ok (.getfield 69, 3) := by decide +kernel
theorem dX7_from_215 : decode cX7_from 215 = .ok (.iload_n 2, 1) := by decide +kernel
theorem dX7_from_216 : decode cX7_from 216 = .ok (.bipush 45, 2) := by decide +kernel
theorem dX7_from_218 : decode cX7_from 218 = .ok (.iadd, 1) := by decide +kernel
theorem dX7_from_219 : decode cX7_from 219 = .ok (.iload_n 3, 1) := by decide +kernel
theorem dX7_from_220 : decode cX7_from 220 = .ok (.iadd, 1) := by decide +kernel
theorem dX7_from_221 : decode cX7_from 221 = .ok (.iaload, 1) := by decide +kernel
theorem dX7_from_222 : decode cX7_from 222 = .ok (.iastore, 1) := by decide +kernel
theorem dX7_from_223 : decode cX7_from 223 = .ok (.aload_n 0, 1) := by decide +kernel
theorem dX7_from_224 : decode cX7_from 224 = .ok (.getfield 44, 3) := by decide +kernel
theorem dX7_from_227 : decode cX7_from 227 = .ok (.iload_n 3, 1) := by decide +kernel
theorem dX7_from_228 : decode cX7_from 228 = .ok (.aload_n 0, 1) := by decide +kernel
theorem dX7_from_229 : decode cX7_from 229 = .ok (.getfield 69, 3) := by decide +kernel
theorem dX7_from_232 : decode cX7_from 232 = .ok (.iload_n 2, 1) := by decide +kernel
theorem dX7_from_233 : decode cX7_from 233 = .ok (.bipush 51, 2) := by decide +kernel
theorem dX7_from_235 : decode cX7_from 235 = .ok (.iadd, 1) := by decide +kernel
theorem dX7_from_236 : decode cX7_from 236 = .ok (.iload_n 3, 1) := by decide +kernel
theorem dX7_from_237 : decode cX7_from 237 = .ok (.iadd, 1) := by decide +kernel
theorem dX7_from_238 : decode cX7_from 238 = .ok (.iaload, 1) := by decide +kernel
theorem dX7_from_239 : decode cX7_from 239 = .ok (.iastore, 1) := by decide +kernel
theorem dX7_from_240 : decode cX7_from 240 = .ok (.iinc 3 1, 3) := by decide +kernel
theorem dX7_from_243 : decode cX7_from 243 = .ok (.goto (-77), 3) := by decide +kernel
theorem dX7_from_246 : decode cX7_from 246 = .ok (.iconst 0, 1) := by decide +kernel
theorem dX7_from_247 : decode cX7_from 247 = .ok (.istore_n 3, 1) := by decide +kernel
theorem dX7_from_248 : decode cX7_from 248 = .ok (.iload_n 3, 1) := by decide +kernel
theorem dX7_from_249 : decode cX7_from 249 = .ok (.bipush 120, 2) := by decide +kernel
theorem dX7_from_251 : decode cX7_from 251 = .ok (.if_icmp .ge 26, 3) := by decide +kernel
theorem dX7_from_254 : decode cX7_from 254 = .ok (.aload_n 0, 1) := by decide +kernel
theorem dX7_from_255 : decode cX7_from 255 = .ok (.getfield 56, 3) := by decide +kernel
theorem dX7_from_258 : decode cX7_from 258 = .ok (.iload_n 3, 1) := by decide +kernel
theorem dX7_from_259 : decode cX7_from 259 = .ok (.aload_n 0, 1) := by decide +kernel
theorem dX7_from_260 : decode cX7_from 260 = .ok (.getfield 69, 3) := by decide +kernel
theorem dX7_from_263 : decode cX7_from 263 = .ok (.iload_n 2, 1) := by decide +kernel
theorem dX7_from_264 : decode cX7_from 264 = .ok (.bipush 57, 2) := by decide +kernel
theorem dX7_from_266 : decode cX7_from 266 = .ok (.iadd, 1) := by decide +kernel
theorem dX7_from_267 : decode cX7_from 267 = .ok (.iload_n 3, 1) := by decide +kernel
theorem dX7_from_268 : decode cX7_from 268 = .ok (.iadd, 1) := by decide +kernel
theorem dX7_from_269 : decode cX7_from 269 = .ok (.iaload, 1) := by decide +kernel
theorem dX7_from_270 : decode cX7_from 270 = .ok (.iastore, 1) := by decide +kernel
theorem dX7_from_271 : decode cX7_from 271 = .ok (.iinc 3 1, 3) := by decide +kernel
theorem dX7_from_274 : decode cX7_from 274 = .ok (.goto (-26), 3) := by decide +kernel
theorem dX7_from_277 : decode cX7_from 277 = .ok (.iconst 1, 1) := by decide +kernel
theorem dX7_from_278 : decode cX7_from 278 = .ok (.ireturn, 1) := by decide +kernel
theorem dX7_status_0 : decode cX7_status 0 = .ok (.iload_n 1, 1) := by decide +kernel
theorem dX7_status_1 : decode cX7_status 1 = .ok (.iconst 0, 1) := by decide +kernel
theorem dX7_status_2 : decode cX7_status 2 = .ok (.iconst 2, 1) := by decide +kernel
theorem dX7_status_3 : decode cX7_status 3 = .ok (.invokestatic 88, 3) := by decide +kernel
theorem dX7_status_6 : decode cX7_status 6 = .ok (.ifCond .ne 15, 3) := by decide +kernel
theorem dX7_status_9 : decode cX7_status 9 = .ok (.aload_n 0, 1) := by decide +kernel
theorem dX7_status_10 : decode cX7_status 10 = .ok (.getfield 1, 3) := by decide +kernel
theorem dX7_status_13 : decode cX7_status 13 = .ok (.iconst 0, 1) := by decide +kernel
theorem dX7_status_14 : decode cX7_status 14 = .ok (.dup2, 1) := by decide +kernel
theorem dX7_status_15 : decode cX7_status 15 = .ok (.iaload, 1) := by decide +kernel
theorem dX7_status_16 : decode cX7_status 16 = .ok (.iconst 1, 1) := by decide +kernel
theorem dX7_status_17 : decode cX7_status 17 = .ok (.iadd, 1) := by decide +kernel
theorem dX7_status_18 : decode cX7_status 18 = .ok (.iastore, 1) := by decide +kernel
theorem dX7_status_19 : decode cX7_status 19 = .ok (.iconst (-1), 1) := by decide +kernel
theorem dX7_status_20 : decode cX7_status 20 = .ok (.ireturn, 1) := by decide +kernel
theorem dX7_status_21 : decode cX7_status 21 = .ok (.aload_n 0, 1) := by decide +kernel
theorem dX7_status_22 : decode cX7_status 22 = .ok (.getfield 1, 3) := by decide +kernel
theorem dX7_status_25 : decode cX7_status 25 = .ok (.iload_n 1, 1) := by decide +kernel
theorem dX7_status_26 : decode cX7_status 26 = .ok (.iaload, 1) := by decide +kernel
theorem dX7_status_27 : decode cX7_status 27 = .ok (.ireturn, 1) := by decide +kernel
theorem dX7_allPaid_0 : decode cX7_allPaid 0 = .ok (.iconst 0, 1) := by decide +kernel
theorem dX7_allPaid_1 : decode cX7_allPaid 1 = .ok (.istore_n 1, 1) := by decide +kernel
theorem dX7_allPaid_2 : decode cX7_allPaid 2 = .ok (.iconst 0, 1) := by decide +kernel
theorem dX7_allPaid_3 : decode cX7_allPaid 3 = .ok (.istore_n 2, 1) := by decide +kernel
theorem dX7_allPaid_4 : decode cX7_allPaid 4 = .ok (.iload_n 2, 1) := by decide +kernel
theorem dX7_allPaid_5 : decode cX7_allPaid 5 = .ok (.aload_n 0, 1) := by decide +kernel
theorem dX7_allPaid_6 : decode cX7_allPaid 6 = .ok (.getfield 79, 3) := by decide +kernel
theorem dX7_allPaid_9 : decode cX7_allPaid 9 = .ok (.if_icmp .ge 18, 3) := by decide +kernel
theorem dX7_allPaid_12 : decode cX7_allPaid 12 = .ok (.iload_n 1, 1) := by decide +kernel
theorem dX7_allPaid_13 : decode cX7_allPaid 13 = .ok (.aload_n 0, 1) := by decide +kernel
theorem dX7_allPaid_14 : decode cX7_allPaid 14 = .ok (.getfield 29, 3) := by decide +kernel
theorem dX7_allPaid_17 : decode cX7_allPaid 17 = .ok (.iload_n 2, 1) := by decide +kernel
theorem dX7_allPaid_18 : decode cX7_allPaid 18 = .ok (.iaload, 1) := by decide +kernel
theorem dX7_allPaid_19 : decode cX7_allPaid 19 = .ok (.iadd, 1) := by decide +kernel
theorem dX7_allPaid_20 : decode cX7_allPaid 20 = .ok (.istore_n 1, 1) := by decide +kernel
theorem dX7_allPaid_21 : decode cX7_allPaid 21 = .ok (.iinc 2 1, 3) := by decide +kernel
theorem dX7_allPaid_24 : decode cX7_allPaid 24 = .ok (.goto (-20), 3) := by decide +kernel
theorem dX7_allPaid_27 : decode cX7_allPaid 27 = .ok (.iload_n 1, 1) := by decide +kernel
theorem dX7_allPaid_28 : decode cX7_allPaid 28 = .ok (.ireturn, 1) := by decide +kernel
theorem dX7_countOf_0 : decode cX7_countOf 0 = .ok (.iload_n 1, 1) := by decide +kernel
theorem dX7_countOf_1 : decode cX7_countOf 1 = .ok (.tableswitch 70 0 5 #[39, 44, 49, 55, 60, 65], 39) := by decide +kernel
theorem dX7_countOf_40 : decode cX7_countOf 40 = .ok (.aload_n 0, 1) := by decide +kernel
theorem dX7_countOf_41 : decode cX7_countOf 41 = .ok (.getfield 79, 3) := by decide +kernel
theorem dX7_countOf_44 : decode cX7_countOf 44 = .ok (.ireturn, 1) := by decide +kernel
theorem dX7_countOf_45 : decode cX7_countOf 45 = .ok (.aload_n 0, 1) := by decide +kernel
theorem dX7_countOf_46 : decode cX7_countOf 46 = .ok (.invokevirtual 218, 3) := by decide +kernel
theorem dX7_countOf_49 : decode cX7_countOf 49 = .ok (.ireturn, 1) := by decide +kernel
theorem dX7_countOf_50 : decode cX7_countOf 50 = .ok (.aload_n 0, 1) := by decide +kernel
theorem dX7_countOf_51 : decode cX7_countOf 51 = .ok (.iconst (-1), 1) := by decide +kernel
theorem dX7_countOf_52 : decode cX7_countOf 52 = .ok (.invokevirtual 242, 3) := by decide +kernel
theorem dX7_countOf_55 : decode cX7_countOf 55 = .ok (.ireturn, 1) := by decide +kernel
theorem dX7_countOf_56 : decode cX7_countOf 56 = .ok (.aload_n 0, 1) := by decide +kernel
theorem dX7_countOf_57 : decode cX7_countOf 57 = .ok (.invokevirtual 292, 3) := by decide +kernel
theorem dX7_countOf_60 : decode cX7_countOf 60 = .ok (.ireturn, 1) := by decide +kernel
theorem dX7_countOf_61 : decode cX7_countOf 61 = .ok (.aload_n 0, 1) := by decide +kernel
theorem dX7_countOf_62 : decode cX7_countOf 62 = .ok (.getfield 82, 3) := by decide +kernel
theorem dX7_countOf_65 : decode cX7_countOf 65 = .ok (.ireturn, 1) := by decide +kernel
theorem dX7_countOf_66 : decode cX7_countOf 66 = .ok (.aload_n 0, 1) := by decide +kernel
theorem dX7_countOf_67 : decode cX7_countOf 67 = .ok (.getfield 85, 3) := by decide +kernel
theorem dX7_countOf_70 : decode cX7_countOf 70 = .ok (.ireturn, 1) := by decide +kernel
theorem dX7_countOf_71 : decode cX7_countOf 71 = .ok (.aload_n 0, 1) := by decide +kernel
theorem dX7_countOf_72 : decode cX7_countOf 72 = .ok (.getfield 107, 3) := by decide +kernel
theorem dX7_countOf_75 : decode cX7_countOf 75 = .ok (.ireturn, 1) := by decide +kernel
theorem dX7_count_0 : decode cX7_count 0 = .ok (.iload_n 1, 1) := by decide +kernel
theorem dX7_count_1 : decode cX7_count 1 = .ok (.iconst 0, 1) := by decide +kernel
theorem dX7_count_2 : decode cX7_count 2 = .ok (.bipush 6, 2) := by decide +kernel
theorem dX7_count_4 : decode cX7_count 4 = .ok (.invokestatic 88, 3) := by decide +kernel
theorem dX7_count_7 : decode cX7_count 7 = .ok (.ifCond .eq 11, 3) := by decide +kernel
theorem dX7_count_10 : decode cX7_count 10 = .ok (.aload_n 0, 1) := by decide +kernel
theorem dX7_count_11 : decode cX7_count 11 = .ok (.iload_n 1, 1) := by decide +kernel
theorem dX7_count_12 : decode cX7_count 12 = .ok (.invokevirtual 295, 3) := by decide +kernel
theorem dX7_count_15 : decode cX7_count 15 = .ok (.goto 7, 3) := by decide +kernel
theorem dX7_count_18 : decode cX7_count 18 = .ok (.aload_n 0, 1) := by decide +kernel
theorem dX7_count_19 : decode cX7_count 19 = .ok (.invokevirtual 96, 3) := by decide +kernel
theorem dX7_count_22 : decode cX7_count 22 = .ok (.ireturn, 1) := by decide +kernel
theorem dX7_mix_0 : decode cX7_mix 0 = .ok (.aload_n 0, 1) := by decide +kernel
theorem dX7_mix_1 : decode cX7_mix 1 = .ok (.ldc2_w 298, 3) := by decide +kernel
theorem dX7_mix_4 : decode cX7_mix 4 = .ok (.aload_n 0, 1) := by decide +kernel
theorem dX7_mix_5 : decode cX7_mix 5 = .ok (.getfield 300, 3) := by decide +kernel
theorem dX7_mix_8 : decode cX7_mix 8 = .ok (.lmul, 1) := by decide +kernel
theorem dX7_mix_9 : decode cX7_mix 9 = .ok (.lload_n 1, 1) := by decide +kernel
theorem dX7_mix_10 : decode cX7_mix 10 = .ok (.ladd, 1) := by decide +kernel
theorem dX7_mix_11 : decode cX7_mix 11 = .ok (.putfield 300, 3) := by decide +kernel
theorem dX7_mix_14 : decode cX7_mix 14 = .ok (.return_, 1) := by decide +kernel
theorem dX7_digest_0 : decode cX7_digest 0 = .ok (.aload_n 0, 1) := by decide +kernel
theorem dX7_digest_1 : decode cX7_digest 1 = .ok (.ldc2_w 303, 3) := by decide +kernel
theorem dX7_digest_4 : decode cX7_digest 4 = .ok (.putfield 300, 3) := by decide +kernel
theorem dX7_digest_7 : decode cX7_digest 7 = .ok (.iconst 0, 1) := by decide +kernel
theorem dX7_digest_8 : decode cX7_digest 8 = .ok (.istore_n 1, 1) := by decide +kernel
theorem dX7_digest_9 : decode cX7_digest 9 = .ok (.iload_n 1, 1) := by decide +kernel
theorem dX7_digest_10 : decode cX7_digest 10 = .ok (.bipush 6, 2) := by decide +kernel
theorem dX7_digest_12 : decode cX7_digest 12 = .ok (.if_icmp .gt 19, 3) := by decide +kernel
theorem dX7_digest_15 : decode cX7_digest 15 = .ok (.aload_n 0, 1) := by decide +kernel
theorem dX7_digest_16 : decode cX7_digest 16 = .ok (.aload_n 0, 1) := by decide +kernel
theorem dX7_digest_17 : decode cX7_digest 17 = .ok (.iload_n 1, 1) := by decide +kernel
theorem dX7_digest_18 : decode cX7_digest 18 = .ok (.invokevirtual 295, 3) := by decide +kernel
theorem dX7_digest_21 : decode cX7_digest 21 = .ok (.i2l, 1) := by decide +kernel
theorem dX7_digest_22 : decode cX7_digest 22 = .ok (.invokevirtual 305, 3) := by decide +kernel
theorem dX7_digest_25 : decode cX7_digest 25 = .ok (.iinc 1 1, 3) := by decide +kernel
theorem dX7_digest_28 : decode cX7_digest 28 = .ok (.goto (-19), 3) := by decide +kernel
theorem dX7_digest_31 : decode cX7_digest 31 = .ok (.aload_n 0, 1) := by decide +kernel
theorem dX7_digest_32 : decode cX7_digest 32 = .ok (.aload_n 0, 1) := by decide +kernel
theorem dX7_digest_33 : decode cX7_digest 33 = .ok (.getfield 13, 3) := by decide +kernel
theorem dX7_digest_36 : decode cX7_digest 36 = .ok (.i2l, 1) := by decide +kernel
theorem dX7_digest_37 : decode cX7_digest 37 = .ok (.invokevirtual 305, 3) := by decide +kernel
theorem dX7_digest_40 : decode cX7_digest 40 = .ok (.aload_n 0, 1) := by decide +kernel
theorem dX7_digest_41 : decode cX7_digest 41 = .ok (.aload_n 0, 1) := by decide +kernel
theorem dX7_digest_42 : decode cX7_digest 42 = .ok (.getfield 17, 3) := by decide +kernel
theorem dX7_digest_45 : decode cX7_digest 45 = .ok (.i2l, 1) := by decide +kernel
theorem dX7_digest_46 : decode cX7_digest 46 = .ok (.invokevirtual 305, 3) := by decide +kernel
theorem dX7_digest_49 : decode cX7_digest 49 = .ok (.iconst 0, 1) := by decide +kernel
theorem dX7_digest_50 : decode cX7_digest 50 = .ok (.istore_n 1, 1) := by decide +kernel
theorem dX7_digest_51 : decode cX7_digest 51 = .ok (.iload_n 1, 1) := by decide +kernel
theorem dX7_digest_52 : decode cX7_digest 52 = .ok (.bipush 8, 2) := by decide +kernel
theorem dX7_digest_54 : decode cX7_digest 54 = .ok (.if_icmp .ge 20, 3) := by decide +kernel
theorem dX7_digest_57 : decode cX7_digest 57 = .ok (.aload_n 0, 1) := by decide +kernel
theorem dX7_digest_58 : decode cX7_digest 58 = .ok (.aload_n 0, 1) := by decide +kernel
theorem dX7_digest_59 : decode cX7_digest 59 = .ok (.getfield 20, 3) := by decide +kernel
theorem dX7_digest_62 : decode cX7_digest 62 = .ok (.iload_n 1, 1) := by decide +kernel
theorem dX7_digest_63 : decode cX7_digest 63 = .ok (.iaload, 1) := by decide +kernel
theorem dX7_digest_64 : decode cX7_digest 64 = .ok (.i2l, 1) := by decide +kernel
theorem dX7_digest_65 : decode cX7_digest 65 = .ok (.invokevirtual 305, 3) := by decide +kernel
theorem dX7_digest_68 : decode cX7_digest 68 = .ok (.iinc 1 1, 3) := by decide +kernel
theorem dX7_digest_71 : decode cX7_digest 71 = .ok (.goto (-20), 3) := by decide +kernel
theorem dX7_digest_74 : decode cX7_digest 74 = .ok (.iconst 0, 1) := by decide +kernel
theorem dX7_digest_75 : decode cX7_digest 75 = .ok (.istore_n 1, 1) := by decide +kernel
theorem dX7_digest_76 : decode cX7_digest 76 = .ok (.iload_n 1, 1) := by decide +kernel
theorem dX7_digest_77 : decode cX7_digest 77 = .ok (.aload_n 0, 1) := by decide +kernel
theorem dX7_digest_78 : decode cX7_digest 78 = .ok (.getfield 79, 3) := by decide +kernel
theorem dX7_digest_81 : decode cX7_digest 81 = .ok (.if_icmp .ge 53, 3) := by decide +kernel
theorem dX7_digest_84 : decode cX7_digest 84 = .ok (.aload_n 0, 1) := by decide +kernel
theorem dX7_digest_85 : decode cX7_digest 85 = .ok (.aload_n 0, 1) := by decide +kernel
theorem dX7_digest_86 : decode cX7_digest 86 = .ok (.getfield 23, 3) := by decide +kernel
theorem dX7_digest_89 : decode cX7_digest 89 = .ok (.iload_n 1, 1) := by decide +kernel
theorem dX7_digest_90 : decode cX7_digest 90 = .ok (.iaload, 1) := by decide +kernel
theorem dX7_digest_91 : decode cX7_digest 91 = .ok (.i2l, 1) := by decide +kernel
theorem dX7_digest_92 : decode cX7_digest 92 = .ok (.invokevirtual 305, 3) := by decide +kernel
theorem dX7_digest_95 : decode cX7_digest 95 = .ok (.aload_n 0, 1) := by decide +kernel
theorem dX7_digest_96 : decode cX7_digest 96 = .ok (.aload_n 0, 1) := by decide +kernel
theorem dX7_digest_97 : decode cX7_digest 97 = .ok (.getfield 26, 3) := by decide +kernel
theorem dX7_digest_100 : decode cX7_digest 100 = .ok (.iload_n 1, 1) := by decide +kernel
theorem dX7_digest_101 : decode cX7_digest 101 = .ok (.iaload, 1) := by decide +kernel
theorem dX7_digest_102 : decode cX7_digest 102 = .ok (.i2l, 1) := by decide +kernel
theorem dX7_digest_103 : decode cX7_digest 103 = .ok (.invokevirtual 305, 3) := by decide +kernel
theorem dX7_digest_106 : decode cX7_digest 106 = .ok (.aload_n 0, 1) := by decide +kernel
theorem dX7_digest_107 : decode cX7_digest 107 = .ok (.aload_n 0, 1) := by decide +kernel
theorem dX7_digest_108 : decode cX7_digest 108 = .ok (.getfield 29, 3) := by decide +kernel
theorem dX7_digest_111 : decode cX7_digest 111 = .ok (.iload_n 1, 1) := by decide +kernel
theorem dX7_digest_112 : decode cX7_digest 112 = .ok (.iaload, 1) := by decide +kernel
theorem dX7_digest_113 : decode cX7_digest 113 = .ok (.i2l, 1) := by decide +kernel
theorem dX7_digest_114 : decode cX7_digest 114 = .ok (.invokevirtual 305, 3) := by decide +kernel
theorem dX7_digest_117 : decode cX7_digest 117 = .ok (.aload_n 0, 1) := by decide +kernel
theorem dX7_digest_118 : decode cX7_digest 118 = .ok (.aload_n 0, 1) := by decide +kernel
theorem dX7_digest_119 : decode cX7_digest 119 = .ok (.getfield 32, 3) := by decide +kernel
theorem dX7_digest_122 : decode cX7_digest 122 = .ok (.iload_n 1, 1) := by decide +kernel
theorem dX7_digest_123 : decode cX7_digest 123 = .ok (.iaload, 1) := by decide +kernel
theorem dX7_digest_124 : decode cX7_digest 124 = .ok (.i2l, 1) := by decide +kernel
theorem dX7_digest_125 : decode cX7_digest 125 = .ok (.invokevirtual 305, 3) := by decide +kernel
theorem dX7_digest_128 : decode cX7_digest 128 = .ok (.iinc 1 1, 3) := by decide +kernel
theorem dX7_digest_131 : decode cX7_digest 131 = .ok (.goto (-55), 3) := by decide +kernel
theorem dX7_digest_134 : decode cX7_digest 134 = .ok (.iconst 0, 1) := by decide +kernel
theorem dX7_digest_135 : decode cX7_digest 135 = .ok (.istore_n 1, 1) := by decide +kernel
theorem dX7_digest_136 : decode cX7_digest 136 = .ok (.iload_n 1, 1) := by decide +kernel
theorem dX7_digest_137 : decode cX7_digest 137 = .ok (.aload_n 0, 1) := by decide +kernel
theorem dX7_digest_138 : decode cX7_digest 138 = .ok (.getfield 82, 3) := by decide +kernel
theorem dX7_digest_141 : decode cX7_digest 141 = .ok (.if_icmp .ge 53, 3) := by decide +kernel
theorem dX7_digest_144 : decode cX7_digest 144 = .ok (.aload_n 0, 1) := by decide +kernel
theorem dX7_digest_145 : decode cX7_digest 145 = .ok (.aload_n 0, 1) := by decide +kernel
theorem dX7_digest_146 : decode cX7_digest 146 = .ok (.getfield 35, 3) := by decide +kernel
theorem dX7_digest_149 : decode cX7_digest 149 = .ok (.iload_n 1, 1) := by decide +kernel
theorem dX7_digest_150 : decode cX7_digest 150 = .ok (.iaload, 1) := by decide +kernel
theorem dX7_digest_151 : decode cX7_digest 151 = .ok (.i2l, 1) := by decide +kernel
theorem dX7_digest_152 : decode cX7_digest 152 = .ok (.invokevirtual 305, 3) := by decide +kernel
theorem dX7_digest_155 : decode cX7_digest 155 = .ok (.aload_n 0, 1) := by decide +kernel
theorem dX7_digest_156 : decode cX7_digest 156 = .ok (.aload_n 0, 1) := by decide +kernel
theorem dX7_digest_157 : decode cX7_digest 157 = .ok (.getfield 38, 3) := by decide +kernel
theorem dX7_digest_160 : decode cX7_digest 160 = .ok (.iload_n 1, 1) := by decide +kernel
theorem dX7_digest_161 : decode cX7_digest 161 = .ok (.iaload, 1) := by decide +kernel
theorem dX7_digest_162 : decode cX7_digest 162 = .ok (.i2l, 1) := by decide +kernel
theorem dX7_digest_163 : decode cX7_digest 163 = .ok (.invokevirtual 305, 3) := by decide +kernel
theorem dX7_digest_166 : decode cX7_digest 166 = .ok (.aload_n 0, 1) := by decide +kernel
theorem dX7_digest_167 : decode cX7_digest 167 = .ok (.aload_n 0, 1) := by decide +kernel
theorem dX7_digest_168 : decode cX7_digest 168 = .ok (.getfield 41, 3) := by decide +kernel
theorem dX7_digest_171 : decode cX7_digest 171 = .ok (.iload_n 1, 1) := by decide +kernel
theorem dX7_digest_172 : decode cX7_digest 172 = .ok (.iaload, 1) := by decide +kernel
theorem dX7_digest_173 : decode cX7_digest 173 = .ok (.i2l, 1) := by decide +kernel
theorem dX7_digest_174 : decode cX7_digest 174 = .ok (.invokevirtual 305, 3) := by decide +kernel
theorem dX7_digest_177 : decode cX7_digest 177 = .ok (.aload_n 0, 1) := by decide +kernel
theorem dX7_digest_178 : decode cX7_digest 178 = .ok (.aload_n 0, 1) := by decide +kernel
theorem dX7_digest_179 : decode cX7_digest 179 = .ok (.getfield 44, 3) := by decide +kernel
theorem dX7_digest_182 : decode cX7_digest 182 = .ok (.iload_n 1, 1) := by decide +kernel
theorem dX7_digest_183 : decode cX7_digest 183 = .ok (.iaload, 1) := by decide +kernel
theorem dX7_digest_184 : decode cX7_digest 184 = .ok (.i2l, 1) := by decide +kernel
theorem dX7_digest_185 : decode cX7_digest 185 = .ok (.invokevirtual 305, 3) := by decide +kernel
theorem dX7_digest_188 : decode cX7_digest 188 = .ok (.iinc 1 1, 3) := by decide +kernel
theorem dX7_digest_191 : decode cX7_digest 191 = .ok (.goto (-55), 3) := by decide +kernel
theorem dX7_digest_194 : decode cX7_digest 194 = .ok (.aload_n 0, 1) := by decide +kernel
theorem dX7_digest_195 : decode cX7_digest 195 = .ok (.aload_n 0, 1) := by decide +kernel
theorem dX7_digest_196 : decode cX7_digest 196 = .ok (.getfield 268, 3) := by decide +kernel
theorem dX7_digest_199 : decode cX7_digest 199 = .ok (.invokevirtual 305, 3) := by decide +kernel
theorem dX7_digest_202 : decode cX7_digest 202 = .ok (.aload_n 0, 1) := by decide +kernel
theorem dX7_digest_203 : decode cX7_digest 203 = .ok (.aload_n 0, 1) := by decide +kernel
theorem dX7_digest_204 : decode cX7_digest 204 = .ok (.getfield 65, 3) := by decide +kernel
theorem dX7_digest_207 : decode cX7_digest 207 = .ok (.invokevirtual 305, 3) := by decide +kernel
theorem dX7_digest_210 : decode cX7_digest 210 = .ok (.aload_n 0, 1) := by decide +kernel
theorem dX7_digest_211 : decode cX7_digest 211 = .ok (.getfield 300, 3) := by decide +kernel
theorem dX7_digest_214 : decode cX7_digest 214 = .ok (.lreturn, 1) := by decide +kernel
