theorem dX9_init_0 : decode cX9_init 0 = .ok (.aload_n 0, 1) := by decide +kernel
theorem dX9_init_1 : decode cX9_init 1 = .ok (.invokespecial 1, 3) := by decide +kernel
theorem dX9_init_4 : decode cX9_init 4 = .ok (.aload_n 0, 1) := by decide +kernel
theorem dX9_init_5 : decode cX9_init 5 = .ok (.bipush 16, 2) := by decide +kernel
theorem dX9_init_7 : decode cX9_init 7 = .ok (.newarray .int, 2) := by decide +kernel
theorem dX9_init_9 : decode cX9_init 9 = .ok (.putfield 7, 3) := by decide +kernel
theorem dX9_init_12 : decode cX9_init 12 = .ok (.aload_n 0, 1) := by decide +kernel
theorem dX9_init_13 : decode cX9_init 13 = .ok (.bipush 10, 2) := by decide +kernel
theorem dX9_init_15 : decode cX9_init 15 = .ok (.newarray .int, 2) := by decide +kernel
theorem dX9_init_17 : decode cX9_init 17 = .ok (.putfield 13, 3) := by decide +kernel
theorem dX9_init_20 : decode cX9_init 20 = .ok (.aload_n 0, 1) := by decide +kernel
theorem dX9_init_21 : decode cX9_init 21 = .ok (.iconst 5, 1) := by decide +kernel
theorem dX9_init_22 : decode cX9_init 22 = .ok (.newarray .int, 2) := by decide +kernel
theorem dX9_init_24 : decode cX9_init 24 = .ok (.putfield 16, 3) := by decide +kernel
theorem dX9_init_27 : decode cX9_init 27 = .ok (.aload_n 0, 1) := by decide +kernel
theorem dX9_init_28 : decode cX9_init 28 = .ok (.bipush 17, 2) := by decide +kernel
theorem dX9_init_30 : decode cX9_init 30 = .ok (.newarray .int, 2) := by decide +kernel
theorem dX9_init_32 : decode cX9_init 32 = .ok (.putfield 19, 3) := by decide +kernel
theorem dX9_init_35 : decode cX9_init 35 = .ok (.aload_n 0, 1) := by decide +kernel
theorem dX9_init_36 : decode cX9_init 36 = .ok (.sipush 170, 3) := by decide +kernel
theorem dX9_init_39 : decode cX9_init 39 = .ok (.newarray .int, 2) := by decide +kernel
theorem dX9_init_41 : decode cX9_init 41 = .ok (.putfield 22, 3) := by decide +kernel
theorem dX9_init_44 : decode cX9_init 44 = .ok (.aload_n 0, 1) := by decide +kernel
theorem dX9_init_45 : decode cX9_init 45 = .ok (.bipush 34, 2) := by decide +kernel
theorem dX9_init_47 : decode cX9_init 47 = .ok (.newarray .int, 2) := by decide +kernel
theorem dX9_init_49 : decode cX9_init 49 = .ok (.putfield 25, 3) := by decide +kernel
theorem dX9_init_52 : decode cX9_init 52 = .ok (.aload_n 0, 1) := by decide +kernel
theorem dX9_init_53 : decode cX9_init 53 = .ok (.iconst 2, 1) := by decide +kernel
theorem dX9_init_54 : decode cX9_init 54 = .ok (.newarray .boolean, 2) := by decide +kernel
theorem dX9_init_56 : decode cX9_init 56 = .ok (.putfield 28, 3) := by decide +kernel
theorem dX9_init_59 : decode cX9_init 59 = .ok (.aload_n 0, 1) := by decide +kernel
theorem dX9_init_60 : decode cX9_init 60 = .ok (.bipush 12, 2) := by decide +kernel
theorem dX9_init_62 : decode cX9_init 62 = .ok (.newarray .int, 2) := by decide +kernel
theorem dX9_init_64 : decode cX9_init 64 = .ok (.putfield 32, 3) := by decide +kernel
theorem dX9_init_67 : decode cX9_init 67 = .ok (.aload_n 0, 1) := by decide +kernel
theorem dX9_init_68 : decode cX9_init 68 = .ok (.bipush 120, 2) := by decide +kernel
theorem dX9_init_70 : decode cX9_init 70 = .ok (.newarray .int, 2) := by decide +kernel
theorem dX9_init_72 : decode cX9_init 72 = .ok (.putfield 35, 3) := by decide +kernel
theorem dX9_init_75 : decode cX9_init 75 = .ok (.aload_n 0, 1) := by decide +kernel
theorem dX9_init_76 : decode cX9_init 76 = .ok (.bipush 16, 2) := by decide +kernel
theorem dX9_init_78 : decode cX9_init 78 = .ok (.newarray .int, 2) := by decide +kernel
theorem dX9_init_80 : decode cX9_init 80 = .ok (.putfield 38, 3) := by decide +kernel
theorem dX9_init_83 : decode cX9_init 83 = .ok (.aload_n 0, 1) := by decide +kernel
theorem dX9_init_84 : decode cX9_init 84 = .ok (.bipush 10, 2) := by decide +kernel
theorem dX9_init_86 : decode cX9_init 86 = .ok (.newarray .int, 2) := by decide +kernel
theorem dX9_init_88 : decode cX9_init 88 = .ok (.putfield 41, 3) := by decide +kernel
theorem dX9_init_91 : decode cX9_init 91 = .ok (.aload_n 0, 1) := by decide +kernel
theorem dX9_init_92 : decode cX9_init 92 = .ok (.iconst 5, 1) := by decide +kernel
theorem dX9_init_93 : decode cX9_init 93 = .ok (.newarray .int, 2) := by decide +kernel
theorem dX9_init_95 : decode cX9_init 95 = .ok (.putfield 44, 3) := by decide +kernel
theorem dX9_init_98 : decode cX9_init 98 = .ok (.aload_n 0, 1) := by decide +kernel
theorem dX9_init_99 : decode cX9_init 99 = .ok (.bipush 17, 2) := by decide +kernel
theorem dX9_init_101 : decode cX9_init 101 = .ok (.newarray .int, 2) := by decide +kernel
theorem dX9_init_103 : decode cX9_init 103 = .ok (.putfield 47, 3) := by decide +kernel
theorem dX9_init_106 : decode cX9_init 106 = .ok (.aload_n 0, 1) := by decide +kernel
theorem dX9_init_107 : decode cX9_init 107 = .ok (.iconst 5, 1) := by decide +kernel
theorem dX9_init_108 : decode cX9_init 108 = .ok (.newarray .int, 2) := by decide +kernel
theorem dX9_init_110 : decode cX9_init 110 = .ok (.putfield 50, 3) := by decide +kernel
theorem dX9_init_113 : decode cX9_init 113 = .ok (.aload_n 0, 1) := by decide +kernel
theorem dX9_init_114 : decode cX9_init 114 = .ok (.iconst 5, 1) := by decide +kernel
theorem dX9_init_115 : decode cX9_init 115 = .ok (.newarray .int, 2) := by decide +kernel
theorem dX9_init_117 : decode cX9_init 117 = .ok (.putfield 53, 3) := by decide +kernel
theorem dX9_init_120 : decode cX9_init 120 = .ok (.aload_n 0, 1) := by decide +kernel
theorem dX9_init_121 : decode cX9_init 121 = .ok (.iconst 5, 1) := by decide +kernel
theorem dX9_init_122 : decode cX9_init 122 = .ok (.newarray .int, 2) := by decide +kernel
theorem dX9_init_124 : decode cX9_init 124 = .ok (.putfield 56, 3) := by decide +kernel
theorem dX9_init_127 : decode cX9_init 127 = .ok (.aload_n 0, 1) := by decide +kernel
theorem dX9_init_128 : decode cX9_init 128 = .ok (.iconst 5, 1) := by decide +kernel
theorem dX9_init_129 : decode cX9_init 129 = .ok (.newarray .int, 2) := by decide +kernel
theorem dX9_init_131 : decode cX9_init 131 = .ok (.putfield 59, 3) := by decide +kernel
theorem dX9_init_134 : decode cX9_init 134 = .ok (.aload_n 0, 1) := by decide +kernel
theorem dX9_init_135 : decode cX9_init 135 = .ok (.bipush 25, 2) := by decide +kernel
theorem dX9_init_137 : decode cX9_init 137 = .ok (.newarray .int, 2) := by decide +kernel
theorem dX9_init_139 : decode cX9_init 139 = .ok (.putfield 62, 3) := by decide +kernel
theorem dX9_init_142 : decode cX9_init 142 = .ok (.aload_n 0, 1) := by decide +kernel
theorem dX9_init_143 : decode cX9_init 143 = .ok (.iconst 5, 1) := by decide +kernel
theorem dX9_init_144 : decode cX9_init 144 = .ok (.newarray .int, 2) := by decide +kernel
theorem dX9_init_146 : decode cX9_init 146 = .ok (.putfield 65, 3) := by decide +kernel
theorem dX9_init_149 : decode cX9_init 149 = .ok (.aload_n 0, 1) := by decide +kernel
theorem dX9_init_150 : decode cX9_init 150 = .ok (.iconst 5, 1) := by decide +kernel
theorem dX9_init_151 : decode cX9_init 151 = .ok (.newarray .int, 2) := by decide +kernel
theorem dX9_init_153 : decode cX9_init 153 = .ok (.putfield 68, 3) := by decide +kernel
theorem dX9_init_156 : decode cX9_init 156 = .ok (.aload_n 0, 1) := by decide +kernel
theorem dX9_init_157 : decode cX9_init 157 = .ok (.iconst 5, 1) := by decide +kernel
theorem dX9_init_158 : decode cX9_init 158 = .ok (.newarray .int, 2) := by decide +kernel
theorem dX9_init_160 : decode cX9_init 160 = .ok (.putfield 71, 3) := by decide +kernel
theorem dX9_init_163 : decode cX9_init 163 = .ok (.return_, 1) := by decide +kernel
theorem dX9_in_0 : decode cX9_in 0 = .ok (.iload_n 0, 1) := by decide +kernel
theorem dX9_in_1 : decode cX9_in 1 = .ok (.iload_n 1, 1) := by decide +kernel
theorem dX9_in_2 : decode cX9_in 2 = .ok (.if_icmp .lt 12, 3) := by decide +kernel
theorem dX9_in_5 : decode cX9_in 5 = .ok (.iload_n 0, 1) := by decide +kernel
theorem dX9_in_6 : decode cX9_in 6 = .ok (.iload_n 2, 1) := by decide +kernel
theorem dX9_in_7 : decode cX9_in 7 = .ok (.if_icmp .gt 7, 3) := by decide +kernel
theorem dX9_in_10 : decode cX9_in 10 = .ok (.iconst 1, 1) := by decide +kernel
theorem dX9_in_11 : decode cX9_in 11 = .ok (.goto 4, 3) := by decide +kernel
theorem dX9_in_14 : decode cX9_in 14 = .ok (.iconst 0, 1) := by decide +kernel
theorem dX9_in_15 : decode cX9_in 15 = .ok (.ireturn, 1) := by decide +kernel
theorem dX9_has_0 : decode cX9_has 0 = .ok (.iload_n 0, 1) := by decide +kernel
theorem dX9_has_1 : decode cX9_has 1 = .ok (.iload_n 1, 1) := by decide +kernel
theorem dX9_has_2 : decode cX9_has 2 = .ok (.ishr, 1) := by decide +kernel
theorem dX9_has_3 : decode cX9_has 3 = .ok (.iconst 1, 1) := by decide +kernel
theorem dX9_has_4 : decode cX9_has 4 = .ok (.iand, 1) := by decide +kernel
theorem dX9_has_5 : decode cX9_has 5 = .ok (.iconst 1, 1) := by decide +kernel
theorem dX9_has_6 : decode cX9_has 6 = .ok (.if_icmp .ne 7, 3) := by decide +kernel
theorem dX9_has_9 : decode cX9_has 9 = .ok (.iconst 1, 1) := by decide +kernel
theorem dX9_has_10 : decode cX9_has 10 = .ok (.goto 4, 3) := by decide +kernel
theorem dX9_has_13 : decode cX9_has 13 = .ok (.iconst 0, 1) := by decide +kernel
theorem dX9_has_14 : decode cX9_has 14 = .ok (.ireturn, 1) := by decide +kernel
theorem dX9_isChair_0 : decode cX9_isChair 0 = .ok (.iload_n 1, 1) := by decide +kernel
theorem dX9_isChair_1 : decode cX9_isChair 1 = .ok (.iconst 0, 1) := by decide +kernel
theorem dX9_isChair_2 : decode cX9_isChair 2 = .ok (.aload_n 0, 1) := by decide +kernel
theorem dX9_isChair_3 : decode cX9_isChair 3 = .ok (.getfield 74, 3) := by decide +kernel
theorem dX9_isChair_6 : decode cX9_isChair 6 = .ok (.iconst 1, 1) := by decide +kernel
theorem dX9_isChair_7 : decode cX9_isChair 7 = .ok (.isub, 1) := by decide +kernel
theorem dX9_isChair_8 : decode cX9_isChair 8 = .ok (.invokestatic 78, 3) := by decide +kernel
theorem dX9_isChair_11 : decode cX9_isChair 11 = .ok (.ireturn, 1) := by decide +kernel
theorem dX9_isRace_0 : decode cX9_isRace 0 = .ok (.aload_n 0, 1) := by decide +kernel
theorem dX9_isRace_1 : decode cX9_isRace 1 = .ok (.getfield 81, 3) := by decide +kernel
theorem dX9_isRace_4 : decode cX9_isRace 4 = .ok (.ifCond .le 14, 3) := by decide +kernel
theorem dX9_isRace_7 : decode cX9_isRace 7 = .ok (.aload_n 0, 1) := by decide +kernel
theorem dX9_isRace_8 : decode cX9_isRace 8 = .ok (.getfield 74, 3) := by decide +kernel
theorem dX9_isRace_11 : decode cX9_isRace 11 = .ok (.ifCond .le 7, 3) := by decide +kernel
theorem dX9_isRace_14 : decode cX9_isRace 14 = .ok (.iconst 1, 1) := by decide +kernel
theorem dX9_isRace_15 : decode cX9_isRace 15 = .ok (.goto 4, 3) := by decide +kernel
theorem dX9_isRace_18 : decode cX9_isRace 18 = .ok (.iconst 0, 1) := by decide +kernel
theorem dX9_isRace_19 : decode cX9_isRace 19 = .ok (.ireturn, 1) := by decide +kernel
theorem dX9_copy_0 : decode cX9_copy 0 = .ok (.iconst 0, 1) := by decide +kernel
theorem dX9_copy_1 : decode cX9_copy 1 = .ok (.istore 4, 2) := by decide +kernel
theorem dX9_copy_3 : decode cX9_copy 3 = .ok (.iload 4, 2) := by decide +kernel
theorem dX9_copy_5 : decode cX9_copy 5 = .ok (.bipush 17, 2) := by decide +kernel
theorem dX9_copy_7 : decode cX9_copy 7 = .ok (.if_icmp .ge 21, 3) := by decide +kernel
theorem dX9_copy_10 : decode cX9_copy 10 = .ok (.aload_n 0, 1) := by decide +kernel
theorem dX9_copy_11 : decode cX9_copy 11 = .ok (.iload_n 1, 1) := by decide +kernel
theorem dX9_copy_12 : decode cX9_copy 12 = .ok (.iload 4, 2) := by decide +kernel
theorem dX9_copy_14 : decode cX9_copy 14 = .ok (.iadd, 1) := by decide +kernel
theorem dX9_copy_15 : decode cX9_copy 15 = .ok (.aload_n 2, 1) := by decide +kernel
theorem dX9_copy_16 : decode cX9_copy 16 = .ok (.iload_n 3, 1) := by decide +kernel
theorem dX9_copy_17 : decode cX9_copy 17 = .ok (.iload 4, 2) := by decide +kernel
theorem dX9_copy_19 : decode cX9_copy 19 = .ok (.iadd, 1) := by decide +kernel
theorem dX9_copy_20 : decode cX9_copy 20 = .ok (.iaload, 1) := by decide +kernel
theorem dX9_copy_21 : decode cX9_copy 21 = .ok (.iastore, 1) := by decide +kernel
theorem dX9_copy_22 : decode cX9_copy 22 = .ok (.iinc 4 1, 3) := by decide +kernel
theorem dX9_copy_25 : decode cX9_copy 25 = .ok (.goto (-22), 3) := by decide +kernel
theorem dX9_copy_28 : decode cX9_copy 28 = .ok (.return_, 1) := by decide +kernel
theorem dX9_type_0 : decode cX9_type 0 = .ok (.iload_n 1, 1) := by decide +kernel
theorem dX9_type_1 : decode cX9_type 1 = .ok (.iconst 0, 1) := by decide +kernel
theorem dX9_type_2 : decode cX9_type 2 = .ok (.sipush 255, 3) := by decide +kernel
theorem dX9_type_5 : decode cX9_type 5 = .ok (.invokestatic 78, 3) := by decide +kernel
theorem dX9_type_8 : decode cX9_type 8 = .ok (.ifCond .ne 5, 3) := by decide +kernel
theorem dX9_type_11 : decode cX9_type 11 = .ok (.iconst (-1), 1) := by decide +kernel
theorem dX9_type_12 : decode cX9_type 12 = .ok (.ireturn, 1) := by decide +kernel
theorem dX9_type_13 : decode cX9_type 13 = .ok (.aload_n 0, 1) := by decide +kernel
theorem dX9_type_14 : decode cX9_type 14 = .ok (.getfield 84, 3) := by decide +kernel
theorem dX9_type_17 : decode cX9_type 17 = .ok (.bipush 120, 2) := by decide +kernel
theorem dX9_type_19 : decode cX9_type 19 = .ok (.if_icmp .ne 6, 3) := by decide +kernel
theorem dX9_type_22 : decode cX9_type 22 = .ok (.bipush (-3), 2) := by decide +kernel
theorem dX9_type_24 : decode cX9_type 24 = .ok (.ireturn, 1) := by decide +kernel
theorem dX9_type_25 : decode cX9_type 25 = .ok (.aload_n 0, 1) := by decide +kernel
theorem dX9_type_26 : decode cX9_type 26 = .ok (.getfield 35, 3) := by decide +kernel
theorem dX9_type_29 : decode cX9_type 29 = .ok (.aload_n 0, 1) := by decide +kernel
theorem dX9_type_30 : decode cX9_type 30 = .ok (.getfield 84, 3) := by decide +kernel
theorem dX9_type_33 : decode cX9_type 33 = .ok (.iload_n 1, 1) := by decide +kernel
theorem dX9_type_34 : decode cX9_type 34 = .ok (.iastore, 1) := by decide +kernel
theorem dX9_type_35 : decode cX9_type 35 = .ok (.aload_n 0, 1) := by decide +kernel
theorem dX9_type_36 : decode cX9_type 36 = .ok (.dup, 1) := by decide +kernel
theorem dX9_type_37 : decode cX9_type 37 = .ok (.getfield 84, 3) := by decide +kernel
theorem dX9_type_40 : decode cX9_type 40 = .ok (.iconst 1, 1) := by decide +kernel
theorem dX9_type_41 : decode cX9_type 41 = .ok (.iadd, 1) := by decide +kernel
theorem dX9_type_42 : decode cX9_type 42 = .ok (.putfield 84, 3) := by decide +kernel
theorem dX9_type_45 : decode cX9_type 45 = .ok (.aload_n 0, 1) := by decide +kernel
theorem dX9_type_46 : decode cX9_type 46 = .ok (.getfield 84, 3) := by decide +kernel
theorem dX9_type_49 : decode cX9_type 49 = .ok (.ireturn, 1) := by decide +kernel
theorem dX9_clear_0 : decode cX9_clear 0 = .ok (.aload_n 0, 1) := by decide +kernel
theorem dX9_clear_1 : decode cX9_clear 1 = .ok (.getfield 84, 3) := by decide +kernel
theorem dX9_clear_4 : decode cX9_clear 4 = .ok (.istore_n 1, 1) := by decide +kernel
theorem dX9_clear_5 : decode cX9_clear 5 = .ok (.aload_n 0, 1) := by decide +kernel
theorem dX9_clear_6 : decode cX9_clear 6 = .ok (.iconst 0, 1) := by decide +kernel
theorem dX9_clear_7 : decode cX9_clear 7 = .ok (.putfield 84, 3) := by decide +kernel
theorem dX9_clear_10 : decode cX9_clear 10 = .ok (.iload_n 1, 1) := by decide +kernel
theorem dX9_clear_11 : decode cX9_clear 11 = .ok (.ireturn, 1) := by decide +kernel
theorem dX9_letterAt_0 : decode cX9_letterAt 0 = .ok (.iload_n 1, 1) := by decide +kernel
theorem dX9_letterAt_1 : decode cX9_letterAt 1 = .ok (.aload_n 0, 1) := by decide +kernel
theorem dX9_letterAt_2 : decode cX9_letterAt 2 = .ok (.getfield 84, 3) := by decide +kernel
theorem dX9_letterAt_5 : decode cX9_letterAt 5 = .ok (.if_icmp .ge 12, 3) := by decide +kernel
theorem dX9_letterAt_8 : decode cX9_letterAt 8 = .ok (.aload_n 0, 1) := by decide +kernel
theorem dX9_letterAt_9 : decode cX9_letterAt 9 = .ok (.getfield 35, 3) := by decide +kernel
theorem dX9_letterAt_12 : decode cX9_letterAt 12 = .ok (.iload_n 1, 1) := by decide +kernel
theorem dX9_letterAt_13 : decode cX9_letterAt 13 = .ok (.iaload, 1) := by decide +kernel
theorem dX9_letterAt_14 : decode cX9_letterAt 14 = .ok (.goto 4, 3) := by decide +kernel
theorem dX9_letterAt_17 : decode cX9_letterAt 17 = .ok (.iconst (-1), 1) := by decide +kernel
theorem dX9_letterAt_18 : decode cX9_letterAt 18 = .ok (.ireturn, 1) := by decide +kernel
theorem dX9_isFigure_0 : decode cX9_isFigure 0 = .ok (.iload_n 0, 1) := by decide +kernel
theorem dX9_isFigure_1 : decode cX9_isFigure 1 = .ok (.bipush 48, 2) := by decide +kernel
theorem dX9_isFigure_3 : decode cX9_isFigure 3 = .ok (.bipush 57, 2) := by decide +kernel
theorem dX9_isFigure_5 : decode cX9_isFigure 5 = .ok (.invokestatic 78, 3) := by decide +kernel
theorem dX9_isFigure_8 : decode cX9_isFigure 8 = .ok (.ireturn, 1) := by decide +kernel
theorem dX9_isLetter_0 : decode cX9_isLetter 0 = .ok (.iload_n 0, 1) := by decide +kernel
theorem dX9_isLetter_1 : decode cX9_isLetter 1 = .ok (.invokestatic 87, 3) := by decide +kernel
theorem dX9_isLetter_4 : decode cX9_isLetter 4 = .ok (.ifCond .gt 21, 3) := by decide +kernel
theorem dX9_isLetter_7 : decode cX9_isLetter 7 = .ok (.iload_n 0, 1) := by decide +kernel
theorem dX9_isLetter_8 : decode cX9_isLetter 8 = .ok (.bipush 108, 2) := by decide +kernel
theorem dX9_isLetter_10 : decode cX9_isLetter 10 = .ok (.if_icmp .eq 15, 3) := by decide +kernel
theorem dX9_isLetter_13 : decode cX9_isLetter 13 = .ok (.iload_n 0, 1) := by decide +kernel
theorem dX9_isLetter_14 : decode cX9_isLetter 14 = .ok (.bipush 99, 2) := by decide +kernel
theorem dX9_isLetter_16 : decode cX9_isLetter 16 = .ok (.if_icmp .eq 9, 3) := by decide +kernel
theorem dX9_isLetter_19 : decode cX9_isLetter 19 = .ok (.iload_n 0, 1) := by decide +kernel
theorem dX9_isLetter_20 : decode cX9_isLetter 20 = .ok (.bipush 112, 2) := by decide +kernel
theorem dX9_isLetter_22 : decode cX9_isLetter 22 = .ok (.if_icmp .ne 7, 3) := by decide +kernel
theorem dX9_isLetter_25 : decode cX9_isLetter 25 = .ok (.iconst 1, 1) := by decide +kernel
theorem dX9_isLetter_26 : decode cX9_isLetter 26 = .ok (.goto 4, 3) := by decide +kernel
theorem dX9_isLetter_29 : decode cX9_isLetter 29 = .ok (.iconst 0, 1) := by decide +kernel
theorem dX9_isLetter_30 : decode cX9_isLetter 30 = .ok (.ireturn, 1) := by decide +kernel
theorem dX9_costOf_0 : decode cX9_costOf 0 = .ok (.iload_n 0, 1) := by decide +kernel
theorem dX9_costOf_1 : decode cX9_costOf 1 = .ok (.lookupswitch 53 #[(98, 50), (100, 48), (102, 43), (117, 45)], 43) := by decide +kernel
theorem dX9_costOf_44 : decode cX9_costOf 44 = .ok (.iconst 4, 1) := by decide +kernel
theorem dX9_costOf_45 : decode cX9_costOf 45 = .ok (.ireturn, 1) := by decide +kernel
theorem dX9_costOf_46 : decode cX9_costOf 46 = .ok (.bipush 8, 2) := by decide +kernel
theorem dX9_costOf_48 : decode cX9_costOf 48 = .ok (.ireturn, 1) := by decide +kernel
theorem dX9_costOf_49 : decode cX9_costOf 49 = .ok (.iconst 2, 1) := by decide +kernel
theorem dX9_costOf_50 : decode cX9_costOf 50 = .ok (.ireturn, 1) := by decide +kernel
theorem dX9_costOf_51 : decode cX9_costOf 51 = .ok (.bipush 6, 2) := by decide +kernel
theorem dX9_costOf_53 : decode cX9_costOf 53 = .ok (.ireturn, 1) := by decide +kernel
theorem dX9_costOf_54 : decode cX9_costOf 54 = .ok (.iconst 0, 1) := by decide +kernel
theorem dX9_costOf_55 : decode cX9_costOf 55 = .ok (.ireturn, 1) := by decide +kernel
theorem dX9_next_0 : decode cX9_next 0 = .ok (.aload_n 0, 1) := by decide +kernel
theorem dX9_next_1 : decode cX9_next 1 = .ok (.aload_n 0, 1) := by decide +kernel
theorem dX9_next_2 : decode cX9_next 2 = .ok (.getfield 91, 3) := by decide +kernel
theorem dX9_next_5 : decode cX9_next 5 = .ok (.invokevirtual 94, 3) := by decide +kernel
theorem dX9_next_8 : decode cX9_next 8 = .ok (.bipush 32, 2) := by decide +kernel
theorem dX9_next_10 : decode cX9_next 10 = .ok (.if_icmp .ne 16, 3) := by decide +kernel
theorem dX9_next_13 : decode cX9_next 13 = .ok (.aload_n 0, 1) := by decide +kernel
theorem dX9_next_14 : decode cX9_next 14 = .ok (.dup, 1) := by decide +kernel
theorem dX9_next_15 : decode cX9_next 15 = .ok (.getfield 91, 3) := by decide +kernel
theorem dX9_next_18 : decode cX9_next 18 = .ok (.iconst 1, 1) := by decide +kernel
theorem dX9_next_19 : decode cX9_next 19 = .ok (.iadd, 1) := by decide +kernel
theorem dX9_next_20 : decode cX9_next 20 = .ok (.putfield 91, 3) := by decide +kernel
theorem dX9_next_23 : decode cX9_next 23 = .ok (.goto (-23), 3) := by decide +kernel
theorem dX9_next_26 : decode cX9_next 26 = .ok (.aload_n 0, 1) := by decide +kernel
theorem dX9_next_27 : decode cX9_next 27 = .ok (.aload_n 0, 1) := by decide +kernel
theorem dX9_next_28 : decode cX9_next 28 = .ok (.getfield 91, 3) := by decide +kernel
theorem dX9_next_31 : decode cX9_next 31 = .ok (.putfield 97, 3) := by decide +kernel
theorem dX9_next_34 : decode cX9_next 34 = .ok (.aload_n 0, 1) := by decide +kernel
theorem dX9_next_35 : decode cX9_next 35 = .ok (.aload_n 0, 1) := by decide +kernel
theorem dX9_next_36 : decode cX9_next 36 = .ok (.getfield 91, 3) := by decide +kernel
theorem dX9_next_39 : decode cX9_next 39 = .ok (.invokevirtual 94, 3) := by decide +kernel
theorem dX9_next_42 : decode cX9_next 42 = .ok (.istore_n 1, 1) := by decide +kernel
theorem dX9_next_43 : decode cX9_next 43 = .ok (.aload_n 0, 1) := by decide +kernel
theorem dX9_next_44 : decode cX9_next 44 = .ok (.iconst 0, 1) := by decide +kernel
theorem dX9_next_45 : decode cX9_next 45 = .ok (.putfield 100, 3) := by decide +kernel
theorem dX9_next_48 : decode cX9_next 48 = .ok (.iload_n 1, 1) := by decide +kernel
theorem dX9_next_49 : decode cX9_next 49 = .ok (.ifCond .ge 11, 3) := by decide +kernel
theorem dX9_next_52 : decode cX9_next 52 = .ok (.aload_n 0, 1) := by decide +kernel
theorem dX9_next_53 : decode cX9_next 53 = .ok (.iconst 0, 1) := by decide +kernel
theorem dX9_next_54 : decode cX9_next 54 = .ok (.putfield 103, 3) := by decide +kernel
theorem dX9_next_57 : decode cX9_next 57 = .ok (.goto 157, 3) := by decide +kernel
theorem dX9_next_60 : decode cX9_next 60 = .ok (.iload_n 1, 1) := by decide +kernel
theorem dX9_next_61 : decode cX9_next 61 = .ok (.invokestatic 106, 3) := by decide +kernel
theorem dX9_next_64 : decode cX9_next 64 = .ok (.ifCond .eq 109, 3) := by decide +kernel
theorem dX9_next_67 : decode cX9_next 67 = .ok (.aload_n 0, 1) := by decide +kernel
theorem dX9_next_68 : decode cX9_next 68 = .ok (.aload_n 0, 1) := by decide +kernel
theorem dX9_next_69 : decode cX9_next 69 = .ok (.getfield 91, 3) := by decide +kernel
theorem dX9_next_72 : decode cX9_next 72 = .ok (.invokevirtual 94, 3) := by decide +kernel
theorem dX9_next_75 : decode cX9_next 75 = .ok (.invokestatic 106, 3) := by decide +kernel
theorem dX9_next_78 : decode cX9_next 78 = .ok (.ifCond .eq 55, 3) := by decide +kernel
theorem dX9_next_81 : decode cX9_next 81 = .ok (.aload_n 0, 1) := by decide +kernel
theorem dX9_next_82 : decode cX9_next 82 = .ok (.aload_n 0, 1) := by decide +kernel
theorem dX9_next_83 : decode cX9_next 83 = .ok (.getfield 100, 3) := by decide +kernel
theorem dX9_next_86 : decode cX9_next 86 = .ok (.bipush 99, 2) := by decide +kernel
theorem dX9_next_88 : decode cX9_next 88 = .ok (.if_icmp .le 10, 3) := by decide +kernel
theorem dX9_next_91 : decode cX9_next 91 = .ok (.aload_n 0, 1) := by decide +kernel
theorem dX9_next_92 : decode cX9_next 92 = .ok (.getfield 100, 3) := by decide +kernel
theorem dX9_next_95 : decode cX9_next 95 = .ok (.goto 22, 3) := by decide +kernel
theorem dX9_next_98 : decode cX9_next 98 = .ok (.bipush 10, 2) := by decide +kernel
theorem dX9_next_100 : decode cX9_next 100 = .ok (.aload_n 0, 1) := by decide +kernel
theorem dX9_next_101 : decode cX9_next 101 = .ok (.getfield 100, 3) := by decide +kernel
theorem dX9_next_104 : decode cX9_next 104 = .ok (.imul, 1) := by decide +kernel
theorem dX9_next_105 : decode cX9_next 105 = .ok (.aload_n 0, 1) := by decide +kernel
theorem dX9_next_106 : decode cX9_next 106 = .ok (.aload_n 0, 1) := by decide +kernel
theorem dX9_next_107 : decode cX9_next 107 = .ok (.getfield 91, 3) := by decide +kernel
theorem dX9_next_110 : decode cX9_next 110 = .ok (.invokevirtual 94, 3) := by decide +kernel
theorem dX9_next_113 : decode cX9_next 113 = .ok (.iadd, 1) := by decide +kernel
theorem dX9_next_114 : decode cX9_next 114 = .ok (.bipush 48, 2) := by decide +kernel
theorem dX9_next_116 : decode cX9_next 116 = .ok (.isub, 1) := by decide +kernel
theorem dX9_next_117 : decode cX9_next 117 = .ok (.putfield 100, 3) := by decide +kernel
theorem dX9_next_120 : decode cX9_next 120 = .ok (.aload_n 0, 1) := by decide +kernel
theorem dX9_next_121 : decode cX9_next 121 = .ok (.dup, 1) := by decide +kernel
theorem dX9_next_122 : decode cX9_next 122 = .ok (.getfield 91, 3) := by decide +kernel
theorem dX9_next_125 : decode cX9_next 125 = .ok (.iconst 1, 1) := by decide +kernel
theorem dX9_next_126 : decode cX9_next 126 = .ok (.iadd, 1) := by decide +kernel
theorem dX9_next_127 : decode cX9_next 127 = .ok (.putfield 91, 3) := by decide +kernel
theorem dX9_next_130 : decode cX9_next 130 = .ok (.goto (-63), 3) := by decide +kernel
theorem dX9_next_133 : decode cX9_next 133 = .ok (.aload_n 0, 1) := by decide +kernel
theorem dX9_next_134 : decode cX9_next 134 = .ok (.aload_n 0, 1) := by decide +kernel
theorem dX9_next_135 : decode cX9_next 135 = .ok (.getfield 100, 3) := by decide +kernel
theorem dX9_next_138 : decode cX9_next 138 = .ok (.bipush 99, 2) := by decide +kernel
theorem dX9_next_140 : decode cX9_next 140 = .ok (.if_icmp .gt 22, 3) := by decide +kernel
theorem dX9_next_143 : decode cX9_next 143 = .ok (.iload_n 1, 1) := by decide +kernel
theorem dX9_next_144 : decode cX9_next 144 = .ok (.bipush 48, 2) := by decide +kernel
theorem dX9_next_146 : decode cX9_next 146 = .ok (.if_icmp .ne 20, 3) := by decide +kernel
theorem dX9_next_149 : decode cX9_next 149 = .ok (.aload_n 0, 1) := by decide +kernel
theorem dX9_next_150 : decode cX9_next 150 = .ok (.getfield 91, 3) := by decide +kernel
theorem dX9_next_153 : decode cX9_next 153 = .ok (.aload_n 0, 1) := by decide +kernel
theorem dX9_next_154 : decode cX9_next 154 = .ok (.getfield 97, 3) := by decide +kernel
theorem dX9_next_157 : decode cX9_next 157 = .ok (.isub, 1) := by decide +kernel
theorem dX9_next_158 : decode cX9_next 158 = .ok (.iconst 1, 1) := by decide +kernel
theorem dX9_next_159 : decode cX9_next 159 = .ok (.if_icmp .le 7, 3) := by decide +kernel
theorem dX9_next_162 : decode cX9_next 162 = .ok (.iconst 4, 1) := by decide +kernel
theorem dX9_next_163 : decode cX9_next 163 = .ok (.goto 4, 3) := by decide +kernel
theorem dX9_next_166 : decode cX9_next 166 = .ok (.iconst 2, 1) := by decide +kernel
theorem dX9_next_167 : decode cX9_next 167 = .ok (.putfield 103, 3) := by decide +kernel
theorem dX9_next_170 : decode cX9_next 170 = .ok (.goto 44, 3) := by decide +kernel
theorem dX9_next_173 : decode cX9_next 173 = .ok (.aload_n 0, 1) := by decide +kernel
theorem dX9_next_174 : decode cX9_next 174 = .ok (.iload_n 1, 1) := by decide +kernel
theorem dX9_next_175 : decode cX9_next 175 = .ok (.invokestatic 110, 3) := by decide +kernel
theorem dX9_next_178 : decode cX9_next 178 = .ok (.ifCond .eq 7, 3) := by decide +kernel
theorem dX9_next_181 : decode cX9_next 181 = .ok (.iconst 1, 1) := by decide +kernel
theorem dX9_next_182 : decode cX9_next 182 = .ok (.goto 14, 3) := by decide +kernel
theorem dX9_next_185 : decode cX9_next 185 = .ok (.iload_n 1, 1) := by decide +kernel
theorem dX9_next_186 : decode cX9_next 186 = .ok (.bipush 59, 2) := by decide +kernel
theorem dX9_next_188 : decode cX9_next 188 = .ok (.if_icmp .ne 7, 3) := by decide +kernel
theorem dX9_next_191 : decode cX9_next 191 = .ok (.iconst 3, 1) := by decide +kernel
theorem dX9_next_192 : decode cX9_next 192 = .ok (.goto 4, 3) := by decide +kernel
theorem dX9_next_195 : decode cX9_next 195 = .ok (.iconst 4, 1) := by decide +kernel
theorem dX9_next_196 : decode cX9_next 196 = .ok (.putfield 103, 3) := by decide +kernel
theorem dX9_next_199 : decode cX9_next 199 = .ok (.aload_n 0, 1) := by decide +kernel
theorem dX9_next_200 : decode cX9_next 200 = .ok (.iload_n 1, 1) := by decide +kernel
theorem dX9_next_201 : decode cX9_next 201 = .ok (.putfield 100, 3) := by decide +kernel
theorem dX9_next_204 : decode cX9_next 204 = .ok (.aload_n 0, 1) := by decide +kernel
theorem dX9_next_205 : decode cX9_next 205 = .ok (.dup, 1) := by decide +kernel
theorem dX9_next_206 : decode cX9_next 206 = .ok (.getfield 91, 3) := by decide +kernel
theorem dX9_next_209 : decode cX9_next 209 = .ok (.iconst 1, 1) := by decide +kernel
theorem dX9_next_210 : decode cX9_next 210 = .ok (.iadd, 1) := by decide +kernel
theorem dX9_next_211 : decode cX9_next 211 = .ok (.putfield 91, 3) := by decide +kernel
theorem dX9_next_214 : decode cX9_next 214 = .ok (.return_, 1) := by decide +kernel
theorem dX9_takes_0 : decode cX9_takes 0 = .ok (.aload_n 0, 1) := by decide +kernel
theorem dX9_takes_1 : decode cX9_takes 1 = .ok (.getfield 113, 3) := by decide +kernel
theorem dX9_takes_4 : decode cX9_takes 4 = .ok (.ifCond .ne 27, 3) := by decide +kernel
theorem dX9_takes_7 : decode cX9_takes 7 = .ok (.aload_n 0, 1) := by decide +kernel
theorem dX9_takes_8 : decode cX9_takes 8 = .ok (.getfield 103, 3) := by decide +kernel
theorem dX9_takes_11 : decode cX9_takes 11 = .ok (.iconst 2, 1) := by decide +kernel
theorem dX9_takes_12 : decode cX9_takes 12 = .ok (.if_icmp .ne 19, 3) := by decide +kernel
theorem dX9_takes_15 : decode cX9_takes 15 = .ok (.aload_n 0, 1) := by decide +kernel
theorem dX9_takes_16 : decode cX9_takes 16 = .ok (.getfield 100, 3) := by decide +kernel
theorem dX9_takes_19 : decode cX9_takes 19 = .ok (.iload_n 1, 1) := by decide +kernel
theorem dX9_takes_20 : decode cX9_takes 20 = .ok (.iload_n 2, 1) := by decide +kernel
theorem dX9_takes_21 : decode cX9_takes 21 = .ok (.invokestatic 78, 3) := by decide +kernel
theorem dX9_takes_24 : decode cX9_takes 24 = .ok (.ifCond .eq 7, 3) := by decide +kernel
theorem dX9_takes_27 : decode cX9_takes 27 = .ok (.iconst 1, 1) := by decide +kernel
theorem dX9_takes_28 : decode cX9_takes 28 = .ok (.goto 4, 3) := by decide +kernel
theorem dX9_takes_31 : decode cX9_takes 31 = .ok (.iconst 0, 1) := by decide +kernel
theorem dX9_takes_32 : decode cX9_takes 32 = .ok (.istore_n 3, 1) := by decide +kernel
theorem dX9_takes_33 : decode cX9_takes 33 = .ok (.aload_n 0, 1) := by decide +kernel
theorem dX9_takes_34 : decode cX9_takes 34 = .ok (.iload_n 3, 1) := by decide +kernel
theorem dX9_takes_35 : decode cX9_takes 35 = .ok (.ifCond .ne 7, 3) := by decide +kernel
theorem dX9_takes_38 : decode cX9_takes 38 = .ok (.iconst 1, 1) := by decide +kernel
theorem dX9_takes_39 : decode cX9_takes 39 = .ok (.goto 4, 3) := by decide +kernel
theorem dX9_takes_42 : decode cX9_takes 42 = .ok (.iconst 0, 1) := by decide +kernel
theorem dX9_takes_43 : decode cX9_takes 43 = .ok (.putfield 113, 3) := by decide +kernel
theorem dX9_takes_46 : decode cX9_takes 46 = .ok (.aload_n 0, 1) := by decide +kernel
theorem dX9_takes_47 : decode cX9_takes 47 = .ok (.getfield 100, 3) := by decide +kernel
theorem dX9_takes_50 : decode cX9_takes 50 = .ok (.istore 4, 2) := by decide +kernel
theorem dX9_takes_52 : decode cX9_takes 52 = .ok (.iload_n 3, 1) := by decide +kernel
theorem dX9_takes_53 : decode cX9_takes 53 = .ok (.ifCond .eq 7, 3) := by decide +kernel
theorem dX9_takes_56 : decode cX9_takes 56 = .ok (.aload_n 0, 1) := by decide +kernel
theorem dX9_takes_57 : decode cX9_takes 57 = .ok (.invokevirtual 117, 3) := by decide +kernel
theorem dX9_takes_60 : decode cX9_takes 60 = .ok (.iload_n 3, 1) := by decide +kernel
theorem dX9_takes_61 : decode cX9_takes 61 = .ok (.ifCond .eq 8, 3) := by decide +kernel
theorem dX9_takes_64 : decode cX9_takes 64 = .ok (.iload 4, 2) := by decide +kernel
theorem dX9_takes_66 : decode cX9_takes 66 = .ok (.goto 4, 3) := by decide +kernel
theorem dX9_takes_69 : decode cX9_takes 69 = .ok (.iconst 0, 1) := by decide +kernel
theorem dX9_takes_70 : decode cX9_takes 70 = .ok (.ireturn, 1) := by decide +kernel
theorem dX9_readCells_0 : decode cX9_readCells 0 = .ok (.aload_n 0, 1) := by decide +kernel
theorem dX9_readCells_1 : decode cX9_readCells 1 = .ok (.getfield 113, 3) := by decide +kernel
theorem dX9_readCells_4 : decode cX9_readCells 4 = .ok (.ifCond .ne 94, 3) := by decide +kernel
theorem dX9_readCells_7 : decode cX9_readCells 7 = .ok (.aload_n 0, 1) := by decide +kernel
theorem dX9_readCells_8 : decode cX9_readCells 8 = .ok (.getfield 103, 3) := by decide +kernel
theorem dX9_readCells_11 : decode cX9_readCells 11 = .ok (.iconst 3, 1) := by decide +kernel
theorem dX9_readCells_12 : decode cX9_readCells 12 = .ok (.if_icmp .ne 10, 3) := by decide +kernel
theorem dX9_readCells_15 : decode cX9_readCells 15 = .ok (.aload_n 0, 1) := by decide +kernel
theorem dX9_readCells_16 : decode cX9_readCells 16 = .ok (.getfield 120, 3) := by decide +kernel
theorem dX9_readCells_19 : decode cX9_readCells 19 = .ok (.ifCond .ne 79, 3) := by decide +kernel
theorem dX9_readCells_22 : decode cX9_readCells 22 = .ok (.aload_n 0, 1) := by decide +kernel
theorem dX9_readCells_23 : decode cX9_readCells 23 = .ok (.getfield 103, 3) := by decide +kernel
theorem dX9_readCells_26 : decode cX9_readCells 26 = .ok (.iconst 1, 1) := by decide +kernel
theorem dX9_readCells_27 : decode cX9_readCells 27 = .ok (.if_icmp .ne 13, 3) := by decide +kernel
theorem dX9_readCells_30 : decode cX9_readCells 30 = .ok (.aload_n 0, 1) := by decide +kernel
theorem dX9_readCells_31 : decode cX9_readCells 31 = .ok (.getfield 100, 3) := by decide +kernel
theorem dX9_readCells_34 : decode cX9_readCells 34 = .ok (.invokestatic 87, 3) := by decide +kernel
theorem dX9_readCells_37 : decode cX9_readCells 37 = .ok (.goto 4, 3) := by decide +kernel
theorem dX9_readCells_40 : decode cX9_readCells 40 = .ok (.iconst 0, 1) := by decide +kernel
theorem dX9_readCells_41 : decode cX9_readCells 41 = .ok (.istore_n 1, 1) := by decide +kernel
theorem dX9_readCells_42 : decode cX9_readCells 42 = .ok (.aload_n 0, 1) := by decide +kernel
theorem dX9_readCells_43 : decode cX9_readCells 43 = .ok (.iload_n 1, 1) := by decide +kernel
theorem dX9_readCells_44 : decode cX9_readCells 44 = .ok (.ifCond .eq 12, 3) := by decide +kernel
theorem dX9_readCells_47 : decode cX9_readCells 47 = .ok (.aload_n 0, 1) := by decide +kernel
theorem dX9_readCells_48 : decode cX9_readCells 48 = .ok (.getfield 120, 3) := by decide +kernel
theorem dX9_readCells_51 : decode cX9_readCells 51 = .ok (.bipush 16, 2) := by decide +kernel
theorem dX9_readCells_53 : decode cX9_readCells 53 = .ok (.if_icmp .ne 7, 3) := by decide +kernel
theorem dX9_readCells_56 : decode cX9_readCells 56 = .ok (.iconst 1, 1) := by decide +kernel
theorem dX9_readCells_57 : decode cX9_readCells 57 = .ok (.goto 4, 3) := by decide +kernel
theorem dX9_readCells_60 : decode cX9_readCells 60 = .ok (.iconst 0, 1) := by decide +kernel
theorem dX9_readCells_61 : decode cX9_readCells 61 = .ok (.putfield 113, 3) := by decide +kernel
theorem dX9_readCells_64 : decode cX9_readCells 64 = .ok (.aload_n 0, 1) := by decide +kernel
theorem dX9_readCells_65 : decode cX9_readCells 65 = .ok (.getfield 113, 3) := by decide +kernel
theorem dX9_readCells_68 : decode cX9_readCells 68 = .ok (.ifCond .ne 27, 3) := by decide +kernel
theorem dX9_readCells_71 : decode cX9_readCells 71 = .ok (.aload_n 0, 1) := by decide +kernel
theorem dX9_readCells_72 : decode cX9_readCells 72 = .ok (.getfield 38, 3) := by decide +kernel
theorem dX9_readCells_75 : decode cX9_readCells 75 = .ok (.aload_n 0, 1) := by decide +kernel
theorem dX9_readCells_76 : decode cX9_readCells 76 = .ok (.getfield 120, 3) := by decide +kernel
theorem dX9_readCells_79 : decode cX9_readCells 79 = .ok (.iload_n 1, 1) := by decide +kernel
theorem dX9_readCells_80 : decode cX9_readCells 80 = .ok (.iastore, 1) := by decide +kernel
theorem dX9_readCells_81 : decode cX9_readCells 81 = .ok (.aload_n 0, 1) := by decide +kernel
theorem dX9_readCells_82 : decode cX9_readCells 82 = .ok (.dup, 1) := by decide +kernel
theorem dX9_readCells_83 : decode cX9_readCells 83 = .ok (.getfield 120, 3) := by decide +kernel
theorem dX9_readCells_86 : decode cX9_readCells 86 = .ok (.iconst 1, 1) := by decide +kernel
theorem dX9_readCells_87 : decode cX9_readCells 87 = .ok (.iadd, 1) := by decide +kernel
theorem dX9_readCells_88 : decode cX9_readCells 88 = .ok (.putfield 120, 3) := by decide +kernel
theorem dX9_readCells_91 : decode cX9_readCells 91 = .ok (.aload_n 0, 1) := by decide +kernel
theorem dX9_readCells_92 : decode cX9_readCells 92 = .ok (.invokevirtual 117, 3) := by decide +kernel
theorem dX9_readCells_95 : decode cX9_readCells 95 = .ok (.goto (-95), 3) := by decide +kernel
theorem dX9_readCells_98 : decode cX9_readCells 98 = .ok (.return_, 1) := by decide +kernel
theorem dX9_readChair_0 : decode cX9_readChair 0 = .ok (.aload_n 0, 1) := by decide +kernel
theorem dX9_readChair_1 : decode cX9_readChair 1 = .ok (.getfield 41, 3) := by decide +kernel
theorem dX9_readChair_4 : decode cX9_readChair 4 = .ok (.iconst 2, 1) := by decide +kernel
theorem dX9_readChair_5 : decode cX9_readChair 5 = .ok (.aload_n 0, 1) := by decide +kernel
theorem dX9_readChair_6 : decode cX9_readChair 6 = .ok (.getfield 123, 3) := by decide +kernel
theorem dX9_readChair_9 : decode cX9_readChair 9 = .ok (.imul, 1) := by decide +kernel
theorem dX9_readChair_10 : decode cX9_readChair 10 = .ok (.aload_n 0, 1) := by decide +kernel
theorem dX9_readChair_11 : decode cX9_readChair 11 = .ok (.iconst 1, 1) := by decide +kernel
theorem dX9_readChair_12 : decode cX9_readChair 12 = .ok (.bipush 9, 2) := by decide +kernel
theorem dX9_readChair_14 : decode cX9_readChair 14 = .ok (.invokevirtual 126, 3) := by decide +kernel
theorem dX9_readChair_17 : decode cX9_readChair 17 = .ok (.iastore, 1) := by decide +kernel
theorem dX9_readChair_18 : decode cX9_readChair 18 = .ok (.aload_n 0, 1) := by decide +kernel
theorem dX9_readChair_19 : decode cX9_readChair 19 = .ok (.getfield 41, 3) := by decide +kernel
theorem dX9_readChair_22 : decode cX9_readChair 22 = .ok (.iconst 2, 1) := by decide +kernel
theorem dX9_readChair_23 : decode cX9_readChair 23 = .ok (.aload_n 0, 1) := by decide +kernel
theorem dX9_readChair_24 : decode cX9_readChair 24 = .ok (.getfield 123, 3) := by decide +kernel
theorem dX9_readChair_27 : decode cX9_readChair 27 = .ok (.imul, 1) := by decide +kernel
theorem dX9_readChair_28 : decode cX9_readChair 28 = .ok (.iconst 1, 1) := by decide +kernel
theorem dX9_readChair_29 : decode cX9_readChair 29 = .ok (.iadd, 1) := by decide +kernel
theorem dX9_readChair_30 : decode cX9_readChair 30 = .ok (.aload_n 0, 1) := by decide +kernel
theorem dX9_readChair_31 : decode cX9_readChair 31 = .ok (.iconst 0, 1) := by decide +kernel
theorem dX9_readChair_32 : decode cX9_readChair 32 = .ok (.iconst 3, 1) := by decide +kernel
theorem dX9_readChair_33 : decode cX9_readChair 33 = .ok (.invokevirtual 126, 3) := by decide +kernel
theorem dX9_readChair_36 : decode cX9_readChair 36 = .ok (.iastore, 1) := by decide +kernel
theorem dX9_readChair_37 : decode cX9_readChair 37 = .ok (.aload_n 0, 1) := by decide +kernel
theorem dX9_readChair_38 : decode cX9_readChair 38 = .ok (.getfield 44, 3) := by decide +kernel
theorem dX9_readChair_41 : decode cX9_readChair 41 = .ok (.aload_n 0, 1) := by decide +kernel
theorem dX9_readChair_42 : decode cX9_readChair 42 = .ok (.getfield 123, 3) := by decide +kernel
theorem dX9_readChair_45 : decode cX9_readChair 45 = .ok (.iconst 5, 1) := by decide +kernel
theorem dX9_readChair_46 : decode cX9_readChair 46 = .ok (.iastore, 1) := by decide +kernel
theorem dX9_readChair_47 : decode cX9_readChair 47 = .ok (.aload_n 0, 1) := by decide +kernel
theorem dX9_readChair_48 : decode cX9_readChair 48 = .ok (.dup, 1) := by decide +kernel
theorem dX9_readChair_49 : decode cX9_readChair 49 = .ok (.getfield 123, 3) := by decide +kernel
theorem dX9_readChair_52 : decode cX9_readChair 52 = .ok (.iconst 1, 1) := by decide +kernel
theorem dX9_readChair_53 : decode cX9_readChair 53 = .ok (.iadd, 1) := by decide +kernel
theorem dX9_readChair_54 : decode cX9_readChair 54 = .ok (.putfield 123, 3) := by decide +kernel
theorem dX9_readChair_57 : decode cX9_readChair 57 = .ok (.return_, 1) := by decide +kernel
theorem dX9_readPusher_0 : decode cX9_readPusher 0 = .ok (.aload_n 0, 1) := by decide +kernel
theorem dX9_readPusher_1 : decode cX9_readPusher 1 = .ok (.iconst 0, 1) := by decide +kernel
theorem dX9_readPusher_2 : decode cX9_readPusher 2 = .ok (.aload_n 0, 1) := by decide +kernel
theorem dX9_readPusher_3 : decode cX9_readPusher 3 = .ok (.getfield 123, 3) := by decide +kernel
theorem dX9_readPusher_6 : decode cX9_readPusher 6 = .ok (.iconst 1, 1) := by decide +kernel
theorem dX9_readPusher_7 : decode cX9_readPusher 7 = .ok (.isub, 1) := by decide +kernel
theorem dX9_readPusher_8 : decode cX9_readPusher 8 = .ok (.invokevirtual 126, 3) := by decide +kernel
theorem dX9_readPusher_11 : decode cX9_readPusher 11 = .ok (.istore_n 1, 1) := by decide +kernel
theorem dX9_readPusher_12 : decode cX9_readPusher 12 = .ok (.aload_n 0, 1) := by decide +kernel
theorem dX9_readPusher_13 : decode cX9_readPusher 13 = .ok (.iconst 1, 1) := by decide +kernel
theorem dX9_readPusher_14 : decode cX9_readPusher 14 = .ok (.bipush 9, 2) := by decide +kernel
theorem dX9_readPusher_16 : decode cX9_readPusher 16 = .ok (.invokevirtual 126, 3) := by decide +kernel
theorem dX9_readPusher_19 : decode cX9_readPusher 19 = .ok (.istore_n 2, 1) := by decide +kernel
theorem dX9_readPusher_20 : decode cX9_readPusher 20 = .ok (.aload_n 0, 1) := by decide +kernel
theorem dX9_readPusher_21 : decode cX9_readPusher 21 = .ok (.getfield 113, 3) := by decide +kernel
theorem dX9_readPusher_24 : decode cX9_readPusher 24 = .ok (.ifCond .ne 10, 3) := by decide +kernel
theorem dX9_readPusher_27 : decode cX9_readPusher 27 = .ok (.aload_n 0, 1) := by decide +kernel
theorem dX9_readPusher_28 : decode cX9_readPusher 28 = .ok (.getfield 44, 3) := by decide +kernel
theorem dX9_readPusher_31 : decode cX9_readPusher 31 = .ok (.iload_n 1, 1) := by decide +kernel
theorem dX9_readPusher_32 : decode cX9_readPusher 32 = .ok (.iload_n 2, 1) := by decide +kernel
theorem dX9_readPusher_33 : decode cX9_readPusher 33 = .ok (.iastore, 1) := by decide +kernel
theorem dX9_readPusher_34 : decode cX9_readPusher 34 = .ok (.return_, 1) := by decide +kernel
theorem dX9_readItem_0 : decode cX9_readItem 0 = .ok (.aload_n 0, 1) := by decide +kernel
theorem dX9_readItem_1 : decode cX9_readItem 1 = .ok (.getfield 100, 3) := by decide +kernel
theorem dX9_readItem_4 : decode cX9_readItem 4 = .ok (.istore_n 1, 1) := by decide +kernel
theorem dX9_readItem_5 : decode cX9_readItem 5 = .ok (.iload_n 1, 1) := by decide +kernel
theorem dX9_readItem_6 : decode cX9_readItem 6 = .ok (.bipush 108, 2) := by decide +kernel
theorem dX9_readItem_8 : decode cX9_readItem 8 = .ok (.if_icmp .ne 18, 3) := by decide +kernel
theorem dX9_readItem_11 : decode cX9_readItem 11 = .ok (.aload_n 0, 1) := by decide +kernel
theorem dX9_readItem_12 : decode cX9_readItem 12 = .ok (.getfield 120, 3) := by decide +kernel
theorem dX9_readItem_15 : decode cX9_readItem 15 = .ok (.ifCond .ne 7, 3) := by decide +kernel
theorem dX9_readItem_18 : decode cX9_readItem 18 = .ok (.iconst 1, 1) := by decide +kernel
theorem dX9_readItem_19 : decode cX9_readItem 19 = .ok (.goto 40, 3) := by decide +kernel
theorem dX9_readItem_22 : decode cX9_readItem 22 = .ok (.iconst 0, 1) := by decide +kernel
theorem dX9_readItem_23 : decode cX9_readItem 23 = .ok (.goto 36, 3) := by decide +kernel
theorem dX9_readItem_26 : decode cX9_readItem 26 = .ok (.iload_n 1, 1) := by decide +kernel
theorem dX9_readItem_27 : decode cX9_readItem 27 = .ok (.bipush 99, 2) := by decide +kernel
theorem dX9_readItem_29 : decode cX9_readItem 29 = .ok (.if_icmp .ne 19, 3) := by decide +kernel
theorem dX9_readItem_32 : decode cX9_readItem 32 = .ok (.aload_n 0, 1) := by decide +kernel
theorem dX9_readItem_33 : decode cX9_readItem 33 = .ok (.getfield 123, 3) := by decide +kernel
theorem dX9_readItem_36 : decode cX9_readItem 36 = .ok (.iconst 5, 1) := by decide +kernel
theorem dX9_readItem_37 : decode cX9_readItem 37 = .ok (.if_icmp .ge 7, 3) := by decide +kernel
theorem dX9_readItem_40 : decode cX9_readItem 40 = .ok (.iconst 1, 1) := by decide +kernel
theorem dX9_readItem_41 : decode cX9_readItem 41 = .ok (.goto 18, 3) := by decide +kernel
theorem dX9_readItem_44 : decode cX9_readItem 44 = .ok (.iconst 0, 1) := by decide +kernel
theorem dX9_readItem_45 : decode cX9_readItem 45 = .ok (.goto 14, 3) := by decide +kernel
theorem dX9_readItem_48 : decode cX9_readItem 48 = .ok (.iload_n 1, 1) := by decide +kernel
theorem dX9_readItem_49 : decode cX9_readItem 49 = .ok (.bipush 112, 2) := by decide +kernel
theorem dX9_readItem_51 : decode cX9_readItem 51 = .ok (.if_icmp .ne 7, 3) := by decide +kernel
theorem dX9_readItem_54 : decode cX9_readItem 54 = .ok (.iconst 1, 1) := by decide +kernel
theorem dX9_readItem_55 : decode cX9_readItem 55 = .ok (.goto 4, 3) := by decide +kernel
theorem dX9_readItem_58 : decode cX9_readItem 58 = .ok (.iconst 0, 1) := by decide +kernel
theorem dX9_readItem_59 : decode cX9_readItem 59 = .ok (.istore_n 2, 1) := by decide +kernel
theorem dX9_readItem_60 : decode cX9_readItem 60 = .ok (.aload_n 0, 1) := by decide +kernel
theorem dX9_readItem_61 : decode cX9_readItem 61 = .ok (.getfield 103, 3) := by decide +kernel
theorem dX9_readItem_64 : decode cX9_readItem 64 = .ok (.iconst 1, 1) := by decide +kernel
theorem dX9_readItem_65 : decode cX9_readItem 65 = .ok (.if_icmp .ne 7, 3) := by decide +kernel
theorem dX9_readItem_68 : decode cX9_readItem 68 = .ok (.iload_n 2, 1) := by decide +kernel
theorem dX9_readItem_69 : decode cX9_readItem 69 = .ok (.ifCond .ne 9, 3) := by decide +kernel
theorem dX9_readItem_72 : decode cX9_readItem 72 = .ok (.aload_n 0, 1) := by decide +kernel
theorem dX9_readItem_73 : decode cX9_readItem 73 = .ok (.iconst 1, 1) := by decide +kernel
theorem dX9_readItem_74 : decode cX9_readItem 74 = .ok (.putfield 113, 3) := by decide +kernel
theorem dX9_readItem_77 : decode cX9_readItem 77 = .ok (.return_, 1) := by decide +kernel
theorem dX9_readItem_78 : decode cX9_readItem 78 = .ok (.aload_n 0, 1) := by decide +kernel
theorem dX9_readItem_79 : decode cX9_readItem 79 = .ok (.invokevirtual 117, 3) := by decide +kernel
theorem dX9_readItem_82 : decode cX9_readItem 82 = .ok (.iload_n 1, 1) := by decide +kernel
theorem dX9_readItem_83 : decode cX9_readItem 83 = .ok (.bipush 108, 2) := by decide +kernel
theorem dX9_readItem_85 : decode cX9_readItem 85 = .ok (.if_icmp .ne 10, 3) := by decide +kernel
theorem dX9_readItem_88 : decode cX9_readItem 88 = .ok (.aload_n 0, 1) := by decide +kernel
theorem dX9_readItem_89 : decode cX9_readItem 89 = .ok (.invokevirtual 130, 3) := by decide +kernel
theorem dX9_readItem_92 : decode cX9_readItem 92 = .ok (.goto 20, 3) := by decide +kernel
theorem dX9_readItem_95 : decode cX9_readItem 95 = .ok (.iload_n 1, 1) := by decide +kernel
theorem dX9_readItem_96 : decode cX9_readItem 96 = .ok (.bipush 99, 2) := by decide +kernel
theorem dX9_readItem_98 : decode cX9_readItem 98 = .ok (.if_icmp .ne 10, 3) := by decide +kernel
theorem dX9_readItem_101 : decode cX9_readItem 101 = .ok (.aload_n 0, 1) := by decide +kernel
theorem dX9_readItem_102 : decode cX9_readItem 102 = .ok (.invokevirtual 133, 3) := by decide +kernel
theorem dX9_readItem_105 : decode cX9_readItem 105 = .ok (.goto 7, 3) := by decide +kernel
theorem dX9_readItem_108 : decode cX9_readItem 108 = .ok (.aload_n 0, 1) := by decide +kernel
theorem dX9_readItem_109 : decode cX9_readItem 109 = .ok (.invokevirtual 136, 3) := by decide +kernel
theorem dX9_readItem_112 : decode cX9_readItem 112 = .ok (.aload_n 0, 1) := by decide +kernel
theorem dX9_readItem_113 : decode cX9_readItem 113 = .ok (.aload_n 0, 1) := by decide +kernel
theorem dX9_readItem_114 : decode cX9_readItem 114 = .ok (.getfield 113, 3) := by decide +kernel
theorem dX9_readItem_117 : decode cX9_readItem 117 = .ok (.ifCond .ne 11, 3) := by decide +kernel
theorem dX9_readItem_120 : decode cX9_readItem 120 = .ok (.aload_n 0, 1) := by decide +kernel
theorem dX9_readItem_121 : decode cX9_readItem 121 = .ok (.getfield 103, 3) := by decide +kernel
theorem dX9_readItem_124 : decode cX9_readItem 124 = .ok (.iconst 3, 1) := by decide +kernel
theorem dX9_readItem_125 : decode cX9_readItem 125 = .ok (.if_icmp .eq 7, 3) := by decide +kernel
theorem dX9_readItem_128 : decode cX9_readItem 128 = .ok (.iconst 1, 1) := by decide +kernel
theorem dX9_readItem_129 : decode cX9_readItem 129 = .ok (.goto 4, 3) := by decide +kernel
theorem dX9_readItem_132 : decode cX9_readItem 132 = .ok (.iconst 0, 1) := by decide +kernel
theorem dX9_readItem_133 : decode cX9_readItem 133 = .ok (.putfield 113, 3) := by decide +kernel
theorem dX9_readItem_136 : decode cX9_readItem 136 = .ok (.aload_n 0, 1) := by decide +kernel
theorem dX9_readItem_137 : decode cX9_readItem 137 = .ok (.getfield 113, 3) := by decide +kernel
theorem dX9_readItem_140 : decode cX9_readItem 140 = .ok (.ifCond .ne 7, 3) := by decide +kernel
theorem dX9_readItem_143 : decode cX9_readItem 143 = .ok (.aload_n 0, 1) := by decide +kernel
theorem dX9_readItem_144 : decode cX9_readItem 144 = .ok (.invokevirtual 117, 3) := by decide +kernel
theorem dX9_readItem_147 : decode cX9_readItem 147 = .ok (.return_, 1) := by decide +kernel
theorem dX9_spa_0 : decode cX9_spa 0 = .ok (.aload_n 0, 1) := by decide +kernel
theorem dX9_spa_1 : decode cX9_spa 1 = .ok (.iconst 0, 1) := by decide +kernel
theorem dX9_spa_2 : decode cX9_spa 2 = .ok (.putfield 91, 3) := by decide +kernel
theorem dX9_spa_5 : decode cX9_spa 5 = .ok (.aload_n 0, 1) := by decide +kernel
theorem dX9_spa_6 : decode cX9_spa 6 = .ok (.iconst 0, 1) := by decide +kernel
theorem dX9_spa_7 : decode cX9_spa 7 = .ok (.putfield 113, 3) := by decide +kernel
theorem dX9_spa_10 : decode cX9_spa 10 = .ok (.aload_n 0, 1) := by decide +kernel
theorem dX9_spa_11 : decode cX9_spa 11 = .ok (.iconst 0, 1) := by decide +kernel
theorem dX9_spa_12 : decode cX9_spa 12 = .ok (.putfield 139, 3) := by decide +kernel
theorem dX9_spa_15 : decode cX9_spa 15 = .ok (.aload_n 0, 1) := by decide +kernel
theorem dX9_spa_16 : decode cX9_spa 16 = .ok (.iconst 0, 1) := by decide +kernel
theorem dX9_spa_17 : decode cX9_spa 17 = .ok (.putfield 120, 3) := by decide +kernel
theorem dX9_spa_20 : decode cX9_spa 20 = .ok (.aload_n 0, 1) := by decide +kernel
theorem dX9_spa_21 : decode cX9_spa 21 = .ok (.iconst 0, 1) := by decide +kernel
theorem dX9_spa_22 : decode cX9_spa 22 = .ok (.putfield 123, 3) := by decide +kernel
theorem dX9_spa_25 : decode cX9_spa 25 = .ok (.aload_n 0, 1) := by decide +kernel
theorem dX9_spa_26 : decode cX9_spa 26 = .ok (.invokevirtual 117, 3) := by decide +kernel
theorem dX9_spa_29 : decode cX9_spa 29 = .ok (.aload_n 0, 1) := by decide +kernel
theorem dX9_spa_30 : decode cX9_spa 30 = .ok (.getfield 103, 3) := by decide +kernel
theorem dX9_spa_33 : decode cX9_spa 33 = .ok (.ifCond .eq 27, 3) := by decide +kernel
theorem dX9_spa_36 : decode cX9_spa 36 = .ok (.aload_n 0, 1) := by decide +kernel
theorem dX9_spa_37 : decode cX9_spa 37 = .ok (.getfield 113, 3) := by decide +kernel
theorem dX9_spa_40 : decode cX9_spa 40 = .ok (.ifCond .ne 20, 3) := by decide +kernel
theorem dX9_spa_43 : decode cX9_spa 43 = .ok (.aload_n 0, 1) := by decide +kernel
theorem dX9_spa_44 : decode cX9_spa 44 = .ok (.invokevirtual 142, 3) := by decide +kernel
theorem dX9_spa_47 : decode cX9_spa 47 = .ok (.aload_n 0, 1) := by decide +kernel
theorem dX9_spa_48 : decode cX9_spa 48 = .ok (.dup, 1) := by decide +kernel
theorem dX9_spa_49 : decode cX9_spa 49 = .ok (.getfield 139, 3) := by decide +kernel
theorem dX9_spa_52 : decode cX9_spa 52 = .ok (.iconst 1, 1) := by decide +kernel
theorem dX9_spa_53 : decode cX9_spa 53 = .ok (.iadd, 1) := by decide +kernel
theorem dX9_spa_54 : decode cX9_spa 54 = .ok (.putfield 139, 3) := by decide +kernel
theorem dX9_spa_57 : decode cX9_spa 57 = .ok (.goto (-28), 3) := by decide +kernel
theorem dX9_spa_60 : decode cX9_spa 60 = .ok (.aload_n 0, 1) := by decide +kernel
theorem dX9_spa_61 : decode cX9_spa 61 = .ok (.getfield 113, 3) := by decide +kernel
theorem dX9_spa_64 : decode cX9_spa 64 = .ok (.ifCond .eq 11, 3) := by decide +kernel
theorem dX9_spa_67 : decode cX9_spa 67 = .ok (.bipush (-10), 2) := by decide +kernel
theorem dX9_spa_69 : decode cX9_spa 69 = .ok (.aload_n 0, 1) := by decide +kernel
theorem dX9_spa_70 : decode cX9_spa 70 = .ok (.getfield 97, 3) := by decide +kernel
theorem dX9_spa_73 : decode cX9_spa 73 = .ok (.isub, 1) := by decide +kernel
theorem dX9_spa_74 : decode cX9_spa 74 = .ok (.ireturn, 1) := by decide +kernel
theorem dX9_spa_75 : decode cX9_spa 75 = .ok (.aload_n 0, 1) := by decide +kernel
theorem dX9_spa_76 : decode cX9_spa 76 = .ok (.invokevirtual 145, 3) := by decide +kernel
theorem dX9_spa_79 : decode cX9_spa 79 = .ok (.aload_n 0, 1) := by decide +kernel
theorem dX9_spa_80 : decode cX9_spa 80 = .ok (.getfield 139, 3) := by decide +kernel
theorem dX9_spa_83 : decode cX9_spa 83 = .ok (.ireturn, 1) := by decide +kernel
theorem dX9_settles_0 : decode cX9_settles 0 = .ok (.aload_n 0, 1) := by decide +kernel
theorem dX9_settles_1 : decode cX9_settles 1 = .ok (.aload_n 0, 1) := by decide +kernel
theorem dX9_settles_2 : decode cX9_settles 2 = .ok (.getfield 120, 3) := by decide +kernel
theorem dX9_settles_5 : decode cX9_settles 5 = .ok (.putfield 81, 3) := by decide +kernel
theorem dX9_settles_8 : decode cX9_settles 8 = .ok (.iconst 0, 1) := by decide +kernel
theorem dX9_settles_9 : decode cX9_settles 9 = .ok (.istore_n 1, 1) := by decide +kernel
theorem dX9_settles_10 : decode cX9_settles 10 = .ok (.iload_n 1, 1) := by decide +kernel
theorem dX9_settles_11 : decode cX9_settles 11 = .ok (.bipush 16, 2) := by decide +kernel
theorem dX9_settles_13 : decode cX9_settles 13 = .ok (.if_icmp .ge 21, 3) := by decide +kernel
theorem dX9_settles_16 : decode cX9_settles 16 = .ok (.aload_n 0, 1) := by decide +kernel
theorem dX9_settles_17 : decode cX9_settles 17 = .ok (.getfield 7, 3) := by decide +kernel
theorem dX9_settles_20 : decode cX9_settles 20 = .ok (.iload_n 1, 1) := by decide +kernel
theorem dX9_settles_21 : decode cX9_settles 21 = .ok (.aload_n 0, 1) := by decide +kernel
theorem dX9_settles_22 : decode cX9_settles 22 = .ok (.getfield 38, 3) := by decide +kernel
theorem dX9_settles_25 : decode cX9_settles 25 = .ok (.iload_n 1, 1) := by decide +kernel
theorem dX9_settles_26 : decode cX9_settles 26 = .ok (.iaload, 1) := by decide +kernel
theorem dX9_settles_27 : decode cX9_settles 27 = .ok (.iastore, 1) := by decide +kernel
theorem dX9_settles_28 : decode cX9_settles 28 = .ok (.iinc 1 1, 3) := by decide +kernel
theorem dX9_settles_31 : decode cX9_settles 31 = .ok (.goto (-21), 3) := by decide +kernel
theorem dX9_settles_34 : decode cX9_settles 34 = .ok (.aload_n 0, 1) := by decide +kernel
theorem dX9_settles_35 : decode cX9_settles 35 = .ok (.aload_n 0, 1) := by decide +kernel
theorem dX9_settles_36 : decode cX9_settles 36 = .ok (.getfield 123, 3) := by decide +kernel
theorem dX9_settles_39 : decode cX9_settles 39 = .ok (.putfield 74, 3) := by decide +kernel
theorem dX9_settles_42 : decode cX9_settles 42 = .ok (.iconst 0, 1) := by decide +kernel
theorem dX9_settles_43 : decode cX9_settles 43 = .ok (.istore_n 1, 1) := by decide +kernel
theorem dX9_settles_44 : decode cX9_settles 44 = .ok (.iload_n 1, 1) := by decide +kernel
theorem dX9_settles_45 : decode cX9_settles 45 = .ok (.iconst 5, 1) := by decide +kernel
theorem dX9_settles_46 : decode cX9_settles 46 = .ok (.if_icmp .ge 57, 3) := by decide +kernel
theorem dX9_settles_49 : decode cX9_settles 49 = .ok (.aload_n 0, 1) := by decide +kernel
theorem dX9_settles_50 : decode cX9_settles 50 = .ok (.getfield 13, 3) := by decide +kernel
theorem dX9_settles_53 : decode cX9_settles 53 = .ok (.iconst 2, 1) := by decide +kernel
theorem dX9_settles_54 : decode cX9_settles 54 = .ok (.iload_n 1, 1) := by decide +kernel
theorem dX9_settles_55 : decode cX9_settles 55 = .ok (.imul, 1) := by decide +kernel
theorem dX9_settles_56 : decode cX9_settles 56 = .ok (.aload_n 0, 1) := by decide +kernel
theorem dX9_settles_57 : decode cX9_settles 57 = .ok (.getfield 41, 3) := by decide +kernel
theorem dX9_settles_60 : decode cX9_settles 60 = .ok (.iconst 2, 1) := by decide +kernel
theorem dX9_settles_61 : decode cX9_settles 61 = .ok (.iload_n 1, 1) := by decide +kernel
theorem dX9_settles_62 : decode cX9_settles 62 = .ok (.imul, 1) := by decide +kernel
theorem dX9_settles_63 : decode cX9_settles 63 = .ok (.iaload, 1) := by decide +kernel
theorem dX9_settles_64 : decode cX9_settles 64 = .ok (.iastore, 1) := by decide +kernel
theorem dX9_settles_65 : decode cX9_settles 65 = .ok (.aload_n 0, 1) := by decide +kernel
theorem dX9_settles_66 : decode cX9_settles 66 = .ok (.getfield 13, 3) := by decide +kernel
theorem dX9_settles_69 : decode cX9_settles 69 = .ok (.iconst 2, 1) := by decide +kernel
theorem dX9_settles_70 : decode cX9_settles 70 = .ok (.iload_n 1, 1) := by decide +kernel
theorem dX9_settles_71 : decode cX9_settles 71 = .ok (.imul, 1) := by decide +kernel
theorem dX9_settles_72 : decode cX9_settles 72 = .ok (.iconst 1, 1) := by decide +kernel
theorem dX9_settles_73 : decode cX9_settles 73 = .ok (.iadd, 1) := by decide +kernel
theorem dX9_settles_74 : decode cX9_settles 74 = .ok (.aload_n 0, 1) := by decide +kernel
theorem dX9_settles_75 : decode cX9_settles 75 = .ok (.getfield 41, 3) := by decide +kernel
theorem dX9_settles_78 : decode cX9_settles 78 = .ok (.iconst 2, 1) := by decide +kernel
theorem dX9_settles_79 : decode cX9_settles 79 = .ok (.iload_n 1, 1) := by decide +kernel
theorem dX9_settles_80 : decode cX9_settles 80 = .ok (.imul, 1) := by decide +kernel
theorem dX9_settles_81 : decode cX9_settles 81 = .ok (.iconst 1, 1) := by decide +kernel
theorem dX9_settles_82 : decode cX9_settles 82 = .ok (.iadd, 1) := by decide +kernel
theorem dX9_settles_83 : decode cX9_settles 83 = .ok (.iaload, 1) := by decide +kernel
theorem dX9_settles_84 : decode cX9_settles 84 = .ok (.iastore, 1) := by decide +kernel
theorem dX9_settles_85 : decode cX9_settles 85 = .ok (.aload_n 0, 1) := by decide +kernel
theorem dX9_settles_86 : decode cX9_settles 86 = .ok (.getfield 16, 3) := by decide +kernel
theorem dX9_settles_89 : decode cX9_settles 89 = .ok (.iload_n 1, 1) := by decide +kernel
theorem dX9_settles_90 : decode cX9_settles 90 = .ok (.aload_n 0, 1) := by decide +kernel
theorem dX9_settles_91 : decode cX9_settles 91 = .ok (.getfield 44, 3) := by decide +kernel
theorem dX9_settles_94 : decode cX9_settles 94 = .ok (.iload_n 1, 1) := by decide +kernel
theorem dX9_settles_95 : decode cX9_settles 95 = .ok (.iaload, 1) := by decide +kernel
theorem dX9_settles_96 : decode cX9_settles 96 = .ok (.iastore, 1) := by decide +kernel
theorem dX9_settles_97 : decode cX9_settles 97 = .ok (.iinc 1 1, 3) := by decide +kernel
theorem dX9_settles_100 : decode cX9_settles 100 = .ok (.goto (-56), 3) := by decide +kernel
theorem dX9_settles_103 : decode cX9_settles 103 = .ok (.iconst 0, 1) := by decide +kernel
theorem dX9_settles_104 : decode cX9_settles 104 = .ok (.istore_n 1, 1) := by decide +kernel
theorem dX9_settles_105 : decode cX9_settles 105 = .ok (.iload_n 1, 1) := by decide +kernel
theorem dX9_settles_106 : decode cX9_settles 106 = .ok (.bipush 17, 2) := by decide +kernel
theorem dX9_settles_108 : decode cX9_settles 108 = .ok (.if_icmp .ge 25, 3) := by decide +kernel
theorem dX9_settles_111 : decode cX9_settles 111 = .ok (.aload_n 0, 1) := by decide +kernel
theorem dX9_settles_112 : decode cX9_settles 112 = .ok (.getfield 19, 3) := by decide +kernel
theorem dX9_settles_115 : decode cX9_settles 115 = .ok (.iload_n 1, 1) := by decide +kernel
theorem dX9_settles_116 : decode cX9_settles 116 = .ok (.iload_n 1, 1) := by decide +kernel
theorem dX9_settles_117 : decode cX9_settles 117 = .ok (.iconst 5, 1) := by decide +kernel
theorem dX9_settles_118 : decode cX9_settles 118 = .ok (.if_icmp .ge 7, 3) := by decide +kernel
theorem dX9_settles_121 : decode cX9_settles 121 = .ok (.iload_n 1, 1) := by decide +kernel
theorem dX9_settles_122 : decode cX9_settles 122 = .ok (.goto 4, 3) := by decide +kernel
theorem dX9_settles_125 : decode cX9_settles 125 = .ok (.iconst 0, 1) := by decide +kernel
theorem dX9_settles_126 : decode cX9_settles 126 = .ok (.iastore, 1) := by decide +kernel
theorem dX9_settles_127 : decode cX9_settles 127 = .ok (.iinc 1 1, 3) := by decide +kernel
theorem dX9_settles_130 : decode cX9_settles 130 = .ok (.goto (-25), 3) := by decide +kernel
theorem dX9_settles_133 : decode cX9_settles 133 = .ok (.aload_n 0, 1) := by decide +kernel
theorem dX9_settles_134 : decode cX9_settles 134 = .ok (.iconst 0, 1) := by decide +kernel
theorem dX9_settles_135 : decode cX9_settles 135 = .ok (.putfield 148, 3) := by decide +kernel
theorem dX9_settles_138 : decode cX9_settles 138 = .ok (.aload_n 0, 1) := by decide +kernel
theorem dX9_settles_139 : decode cX9_settles 139 = .ok (.iconst 0, 1) := by decide +kernel
theorem dX9_settles_140 : decode cX9_settles 140 = .ok (.putfield 151, 3) := by decide +kernel
theorem dX9_settles_143 : decode cX9_settles 143 = .ok (.aload_n 0, 1) := by decide +kernel
theorem dX9_settles_144 : decode cX9_settles 144 = .ok (.getfield 28, 3) := by decide +kernel
theorem dX9_settles_147 : decode cX9_settles 147 = .ok (.iconst 0, 1) := by decide +kernel
theorem dX9_settles_148 : decode cX9_settles 148 = .ok (.iconst 0, 1) := by decide +kernel
theorem dX9_settles_149 : decode cX9_settles 149 = .ok (.bastore, 1) := by decide +kernel
theorem dX9_settles_150 : decode cX9_settles 150 = .ok (.aload_n 0, 1) := by decide +kernel
theorem dX9_settles_151 : decode cX9_settles 151 = .ok (.getfield 28, 3) := by decide +kernel
theorem dX9_settles_154 : decode cX9_settles 154 = .ok (.iconst 1, 1) := by decide +kernel
theorem dX9_settles_155 : decode cX9_settles 155 = .ok (.iconst 0, 1) := by decide +kernel
theorem dX9_settles_156 : decode cX9_settles 156 = .ok (.bastore, 1) := by decide +kernel
theorem dX9_settles_157 : decode cX9_settles 157 = .ok (.aload_n 0, 1) := by decide +kernel
theorem dX9_settles_158 : decode cX9_settles 158 = .ok (.iconst 0, 1) := by decide +kernel
theorem dX9_settles_159 : decode cX9_settles 159 = .ok (.putfield 84, 3) := by decide +kernel
theorem dX9_settles_162 : decode cX9_settles 162 = .ok (.return_, 1) := by decide +kernel
theorem dX9_asItIs_0 : decode cX9_asItIs 0 = .ok (.aload_n 0, 1) := by decide +kernel
theorem dX9_asItIs_1 : decode cX9_asItIs 1 = .ok (.getfield 47, 3) := by decide +kernel
theorem dX9_asItIs_4 : decode cX9_asItIs 4 = .ok (.iconst 0, 1) := by decide +kernel
theorem dX9_asItIs_5 : decode cX9_asItIs 5 = .ok (.aload_n 0, 1) := by decide +kernel
theorem dX9_asItIs_6 : decode cX9_asItIs 6 = .ok (.getfield 19, 3) := by decide +kernel
theorem dX9_asItIs_9 : decode cX9_asItIs 9 = .ok (.iconst 0, 1) := by decide +kernel
theorem dX9_asItIs_10 : decode cX9_asItIs 10 = .ok (.invokestatic 154, 3) := by decide +kernel
theorem dX9_asItIs_13 : decode cX9_asItIs 13 = .ok (.return_, 1) := by decide +kernel
theorem dX9_gainOf_0 : decode cX9_gainOf 0 = .ok (.aload_n 0, 1) := by decide +kernel
theorem dX9_gainOf_1 : decode cX9_gainOf 1 = .ok (.getfield 47, 3) := by decide +kernel
theorem dX9_gainOf_4 : decode cX9_gainOf 4 = .ok (.iconst 0, 1) := by decide +kernel
theorem dX9_gainOf_5 : decode cX9_gainOf 5 = .ok (.iload_n 1, 1) := by decide +kernel
theorem dX9_gainOf_6 : decode cX9_gainOf 6 = .ok (.iadd, 1) := by decide +kernel
theorem dX9_gainOf_7 : decode cX9_gainOf 7 = .ok (.iaload, 1) := by decide +kernel
theorem dX9_gainOf_8 : decode cX9_gainOf 8 = .ok (.istore_n 3, 1) := by decide +kernel
theorem dX9_gainOf_9 : decode cX9_gainOf 9 = .ok (.iconst 2, 1) := by decide +kernel
theorem dX9_gainOf_10 : decode cX9_gainOf 10 = .ok (.iload_n 2, 1) := by decide +kernel
theorem dX9_gainOf_11 : decode cX9_gainOf 11 = .ok (.iload_n 3, 1) := by decide +kernel
theorem dX9_gainOf_12 : decode cX9_gainOf 12 = .ok (.invokestatic 158, 3) := by decide +kernel
theorem dX9_gainOf_15 : decode cX9_gainOf 15 = .ok (.ifCond .eq 7, 3) := by decide +kernel
theorem dX9_gainOf_18 : decode cX9_gainOf 18 = .ok (.iconst 1, 1) := by decide +kernel
theorem dX9_gainOf_19 : decode cX9_gainOf 19 = .ok (.goto 9, 3) := by decide +kernel
theorem dX9_gainOf_22 : decode cX9_gainOf 22 = .ok (.aload_n 0, 1) := by decide +kernel
theorem dX9_gainOf_23 : decode cX9_gainOf 23 = .ok (.getfield 16, 3) := by decide +kernel
theorem dX9_gainOf_26 : decode cX9_gainOf 26 = .ok (.iload_n 3, 1) := by decide +kernel
theorem dX9_gainOf_27 : decode cX9_gainOf 27 = .ok (.iaload, 1) := by decide +kernel
theorem dX9_gainOf_28 : decode cX9_gainOf 28 = .ok (.imul, 1) := by decide +kernel
theorem dX9_gainOf_29 : decode cX9_gainOf 29 = .ok (.aload_n 0, 1) := by decide +kernel
theorem dX9_gainOf_30 : decode cX9_gainOf 30 = .ok (.getfield 13, 3) := by decide +kernel
theorem dX9_gainOf_33 : decode cX9_gainOf 33 = .ok (.iconst 2, 1) := by decide +kernel
theorem dX9_gainOf_34 : decode cX9_gainOf 34 = .ok (.iload_n 1, 1) := by decide +kernel
theorem dX9_gainOf_35 : decode cX9_gainOf 35 = .ok (.imul, 1) := by decide +kernel
theorem dX9_gainOf_36 : decode cX9_gainOf 36 = .ok (.iaload, 1) := by decide +kernel
theorem dX9_gainOf_37 : decode cX9_gainOf 37 = .ok (.isub, 1) := by decide +kernel
theorem dX9_gainOf_38 : decode cX9_gainOf 38 = .ok (.istore 4, 2) := by decide +kernel
theorem dX9_gainOf_40 : decode cX9_gainOf 40 = .ok (.iload 4, 2) := by decide +kernel
theorem dX9_gainOf_42 : decode cX9_gainOf 42 = .ok (.iconst 1, 1) := by decide +kernel
theorem dX9_gainOf_43 : decode cX9_gainOf 43 = .ok (.if_icmp .ge 7, 3) := by decide +kernel
theorem dX9_gainOf_46 : decode cX9_gainOf 46 = .ok (.iconst 1, 1) := by decide +kernel
theorem dX9_gainOf_47 : decode cX9_gainOf 47 = .ok (.goto 5, 3) := by decide +kernel
theorem dX9_gainOf_50 : decode cX9_gainOf 50 = .ok (.iload 4, 2) := by decide +kernel
theorem dX9_gainOf_52 : decode cX9_gainOf 52 = .ok (.aload_n 0, 1) := by decide +kernel
theorem dX9_gainOf_53 : decode cX9_gainOf 53 = .ok (.getfield 47, 3) := by decide +kernel
theorem dX9_gainOf_56 : decode cX9_gainOf 56 = .ok (.bipush 10, 2) := by decide +kernel
theorem dX9_gainOf_58 : decode cX9_gainOf 58 = .ok (.iaload, 1) := by decide +kernel
theorem dX9_gainOf_59 : decode cX9_gainOf 59 = .ok (.iload_n 1, 1) := by decide +kernel
theorem dX9_gainOf_60 : decode cX9_gainOf 60 = .ok (.invokestatic 158, 3) := by decide +kernel
theorem dX9_gainOf_63 : decode cX9_gainOf 63 = .ok (.ifCond .eq 7, 3) := by decide +kernel
theorem dX9_gainOf_66 : decode cX9_gainOf 66 = .ok (.iconst 3, 1) := by decide +kernel
theorem dX9_gainOf_67 : decode cX9_gainOf 67 = .ok (.goto 4, 3) := by decide +kernel
theorem dX9_gainOf_70 : decode cX9_gainOf 70 = .ok (.iconst 0, 1) := by decide +kernel
theorem dX9_gainOf_71 : decode cX9_gainOf 71 = .ok (.iadd, 1) := by decide +kernel
theorem dX9_gainOf_72 : decode cX9_gainOf 72 = .ok (.ireturn, 1) := by decide +kernel
theorem dX9_isTaken_0 : decode cX9_isTaken 0 = .ok (.iconst 0, 1) := by decide +kernel
theorem dX9_isTaken_1 : decode cX9_isTaken 1 = .ok (.istore_n 3, 1) := by decide +kernel
theorem dX9_isTaken_2 : decode cX9_isTaken 2 = .ok (.iconst 0, 1) := by decide +kernel
theorem dX9_isTaken_3 : decode cX9_isTaken 3 = .ok (.istore 4, 2) := by decide +kernel
theorem dX9_isTaken_5 : decode cX9_isTaken 5 = .ok (.iload 4, 2) := by decide +kernel
theorem dX9_isTaken_7 : decode cX9_isTaken 7 = .ok (.aload_n 0, 1) := by decide +kernel
theorem dX9_isTaken_8 : decode cX9_isTaken 8 = .ok (.getfield 74, 3) := by decide +kernel
theorem dX9_isTaken_11 : decode cX9_isTaken 11 = .ok (.if_icmp .ge 46, 3) := by decide +kernel
theorem dX9_isTaken_14 : decode cX9_isTaken 14 = .ok (.iload_n 3, 1) := by decide +kernel
theorem dX9_isTaken_15 : decode cX9_isTaken 15 = .ok (.ifCond .ne 30, 3) := by decide +kernel
theorem dX9_isTaken_18 : decode cX9_isTaken 18 = .ok (.iload 4, 2) := by decide +kernel
theorem dX9_isTaken_20 : decode cX9_isTaken 20 = .ok (.iload_n 2, 1) := by decide +kernel
theorem dX9_isTaken_21 : decode cX9_isTaken 21 = .ok (.if_icmp .eq 28, 3) := by decide +kernel
theorem dX9_isTaken_24 : decode cX9_isTaken 24 = .ok (.aload_n 0, 1) := by decide +kernel
theorem dX9_isTaken_25 : decode cX9_isTaken 25 = .ok (.getfield 56, 3) := by decide +kernel
theorem dX9_isTaken_28 : decode cX9_isTaken 28 = .ok (.iload 4, 2) := by decide +kernel
theorem dX9_isTaken_30 : decode cX9_isTaken 30 = .ok (.iaload, 1) := by decide +kernel
theorem dX9_isTaken_31 : decode cX9_isTaken 31 = .ok (.ifCond .ne 18, 3) := by decide +kernel
theorem dX9_isTaken_34 : decode cX9_isTaken 34 = .ok (.aload_n 0, 1) := by decide +kernel
theorem dX9_isTaken_35 : decode cX9_isTaken 35 = .ok (.getfield 50, 3) := by decide +kernel
theorem dX9_isTaken_38 : decode cX9_isTaken 38 = .ok (.iload 4, 2) := by decide +kernel
theorem dX9_isTaken_40 : decode cX9_isTaken 40 = .ok (.iaload, 1) := by decide +kernel
theorem dX9_isTaken_41 : decode cX9_isTaken 41 = .ok (.iload_n 1, 1) := by decide +kernel
theorem dX9_isTaken_42 : decode cX9_isTaken 42 = .ok (.if_icmp .ne 7, 3) := by decide +kernel
theorem dX9_isTaken_45 : decode cX9_isTaken 45 = .ok (.iconst 1, 1) := by decide +kernel
theorem dX9_isTaken_46 : decode cX9_isTaken 46 = .ok (.goto 4, 3) := by decide +kernel
theorem dX9_isTaken_49 : decode cX9_isTaken 49 = .ok (.iconst 0, 1) := by decide +kernel
theorem dX9_isTaken_50 : decode cX9_isTaken 50 = .ok (.istore_n 3, 1) := by decide +kernel
theorem dX9_isTaken_51 : decode cX9_isTaken 51 = .ok (.iinc 4 1, 3) := by decide +kernel
theorem dX9_isTaken_54 : decode cX9_isTaken 54 = .ok (.goto (-49), 3) := by decide +kernel
theorem dX9_isTaken_57 : decode cX9_isTaken 57 = .ok (.iload_n 3, 1) := by decide +kernel
theorem dX9_isTaken_58 : decode cX9_isTaken 58 = .ok (.ireturn, 1) := by decide +kernel
theorem dX9_goes_0 : decode cX9_goes 0 = .ok (.aload_n 0, 1) := by decide +kernel
theorem dX9_goes_1 : decode cX9_goes 1 = .ok (.getfield 53, 3) := by decide +kernel
theorem dX9_goes_4 : decode cX9_goes 4 = .ok (.iload_n 1, 1) := by decide +kernel
theorem dX9_goes_5 : decode cX9_goes 5 = .ok (.dup2, 1) := by decide +kernel
theorem dX9_goes_6 : decode cX9_goes 6 = .ok (.iaload, 1) := by decide +kernel
theorem dX9_goes_7 : decode cX9_goes 7 = .ok (.iload_n 3, 1) := by decide +kernel
theorem dX9_goes_8 : decode cX9_goes 8 = .ok (.iadd, 1) := by decide +kernel
theorem dX9_goes_9 : decode cX9_goes 9 = .ok (.iastore, 1) := by decide +kernel
theorem dX9_goes_10 : decode cX9_goes 10 = .ok (.iconst 1, 1) := by decide +kernel
theorem dX9_goes_11 : decode cX9_goes 11 = .ok (.istore 4, 2) := by decide +kernel
theorem dX9_goes_13 : decode cX9_goes 13 = .ok (.iload 4, 2) := by decide +kernel
theorem dX9_goes_15 : decode cX9_goes 15 = .ok (.ifCond .eq 171, 3) := by decide +kernel
theorem dX9_goes_18 : decode cX9_goes 18 = .ok (.aload_n 0, 1) := by decide +kernel
theorem dX9_goes_19 : decode cX9_goes 19 = .ok (.getfield 53, 3) := by decide +kernel
theorem dX9_goes_22 : decode cX9_goes 22 = .ok (.iload_n 1, 1) := by decide +kernel
theorem dX9_goes_23 : decode cX9_goes 23 = .ok (.iaload, 1) := by decide +kernel
theorem dX9_goes_24 : decode cX9_goes 24 = .ok (.aload_n 0, 1) := by decide +kernel
theorem dX9_goes_25 : decode cX9_goes 25 = .ok (.getfield 7, 3) := by decide +kernel
theorem dX9_goes_28 : decode cX9_goes 28 = .ok (.aload_n 0, 1) := by decide +kernel
theorem dX9_goes_29 : decode cX9_goes 29 = .ok (.getfield 50, 3) := by decide +kernel
theorem dX9_goes_32 : decode cX9_goes 32 = .ok (.iload_n 1, 1) := by decide +kernel
theorem dX9_goes_33 : decode cX9_goes 33 = .ok (.iaload, 1) := by decide +kernel
theorem dX9_goes_34 : decode cX9_goes 34 = .ok (.iaload, 1) := by decide +kernel
theorem dX9_goes_35 : decode cX9_goes 35 = .ok (.if_icmp .lt 151, 3) := by decide +kernel
theorem dX9_goes_38 : decode cX9_goes 38 = .ok (.aload_n 0, 1) := by decide +kernel
theorem dX9_goes_39 : decode cX9_goes 39 = .ok (.getfield 50, 3) := by decide +kernel
theorem dX9_goes_42 : decode cX9_goes 42 = .ok (.iload_n 1, 1) := by decide +kernel
theorem dX9_goes_43 : decode cX9_goes 43 = .ok (.iaload, 1) := by decide +kernel
theorem dX9_goes_44 : decode cX9_goes 44 = .ok (.iconst 1, 1) := by decide +kernel
theorem dX9_goes_45 : decode cX9_goes 45 = .ok (.iadd, 1) := by decide +kernel
theorem dX9_goes_46 : decode cX9_goes 46 = .ok (.istore 5, 2) := by decide +kernel
theorem dX9_goes_48 : decode cX9_goes 48 = .ok (.iload 5, 2) := by decide +kernel
theorem dX9_goes_50 : decode cX9_goes 50 = .ok (.aload_n 0, 1) := by decide +kernel
theorem dX9_goes_51 : decode cX9_goes 51 = .ok (.getfield 81, 3) := by decide +kernel
theorem dX9_goes_54 : decode cX9_goes 54 = .ok (.if_icmp .ne 56, 3) := by decide +kernel
theorem dX9_goes_57 : decode cX9_goes 57 = .ok (.aload_n 0, 1) := by decide +kernel
theorem dX9_goes_58 : decode cX9_goes 58 = .ok (.getfield 53, 3) := by decide +kernel
theorem dX9_goes_61 : decode cX9_goes 61 = .ok (.iload_n 1, 1) := by decide +kernel
theorem dX9_goes_62 : decode cX9_goes 62 = .ok (.dup2, 1) := by decide +kernel
theorem dX9_goes_63 : decode cX9_goes 63 = .ok (.iaload, 1) := by decide +kernel
theorem dX9_goes_64 : decode cX9_goes 64 = .ok (.aload_n 0, 1) := by decide +kernel
theorem dX9_goes_65 : decode cX9_goes 65 = .ok (.getfield 7, 3) := by decide +kernel
theorem dX9_goes_68 : decode cX9_goes 68 = .ok (.aload_n 0, 1) := by decide +kernel
theorem dX9_goes_69 : decode cX9_goes 69 = .ok (.getfield 50, 3) := by decide +kernel
theorem dX9_goes_72 : decode cX9_goes 72 = .ok (.iload_n 1, 1) := by decide +kernel
theorem dX9_goes_73 : decode cX9_goes 73 = .ok (.iaload, 1) := by decide +kernel
theorem dX9_goes_74 : decode cX9_goes 74 = .ok (.iaload, 1) := by decide +kernel
theorem dX9_goes_75 : decode cX9_goes 75 = .ok (.isub, 1) := by decide +kernel
theorem dX9_goes_76 : decode cX9_goes 76 = .ok (.iastore, 1) := by decide +kernel
theorem dX9_goes_77 : decode cX9_goes 77 = .ok (.aload_n 0, 1) := by decide +kernel
theorem dX9_goes_78 : decode cX9_goes 78 = .ok (.getfield 56, 3) := by decide +kernel
theorem dX9_goes_81 : decode cX9_goes 81 = .ok (.iload_n 1, 1) := by decide +kernel
theorem dX9_goes_82 : decode cX9_goes 82 = .ok (.iload_n 2, 1) := by decide +kernel
theorem dX9_goes_83 : decode cX9_goes 83 = .ok (.iastore, 1) := by decide +kernel
theorem dX9_goes_84 : decode cX9_goes 84 = .ok (.aload_n 0, 1) := by decide +kernel
theorem dX9_goes_85 : decode cX9_goes 85 = .ok (.getfield 59, 3) := by decide +kernel
theorem dX9_goes_88 : decode cX9_goes 88 = .ok (.aload_n 0, 1) := by decide +kernel
theorem dX9_goes_89 : decode cX9_goes 89 = .ok (.getfield 162, 3) := by decide +kernel
theorem dX9_goes_92 : decode cX9_goes 92 = .ok (.iload_n 1, 1) := by decide +kernel
theorem dX9_goes_93 : decode cX9_goes 93 = .ok (.iastore, 1) := by decide +kernel
theorem dX9_goes_94 : decode cX9_goes 94 = .ok (.aload_n 0, 1) := by decide +kernel
theorem dX9_goes_95 : decode cX9_goes 95 = .ok (.dup, 1) := by decide +kernel
theorem dX9_goes_96 : decode cX9_goes 96 = .ok (.getfield 162, 3) := by decide +kernel
theorem dX9_goes_99 : decode cX9_goes 99 = .ok (.iconst 1, 1) := by decide +kernel
theorem dX9_goes_100 : decode cX9_goes 100 = .ok (.iadd, 1) := by decide +kernel
theorem dX9_goes_101 : decode cX9_goes 101 = .ok (.putfield 162, 3) := by decide +kernel
theorem dX9_goes_104 : decode cX9_goes 104 = .ok (.iconst 0, 1) := by decide +kernel
theorem dX9_goes_105 : decode cX9_goes 105 = .ok (.istore 4, 2) := by decide +kernel
theorem dX9_goes_107 : decode cX9_goes 107 = .ok (.goto 76, 3) := by decide +kernel
theorem dX9_goes_110 : decode cX9_goes 110 = .ok (.aload_n 0, 1) := by decide +kernel
theorem dX9_goes_111 : decode cX9_goes 111 = .ok (.getfield 7, 3) := by decide +kernel
theorem dX9_goes_114 : decode cX9_goes 114 = .ok (.iload 5, 2) := by decide +kernel
theorem dX9_goes_116 : decode cX9_goes 116 = .ok (.iaload, 1) := by decide +kernel
theorem dX9_goes_117 : decode cX9_goes 117 = .ok (.bipush 6, 2) := by decide +kernel
theorem dX9_goes_119 : decode cX9_goes 119 = .ok (.if_icmp .ne 36, 3) := by decide +kernel
theorem dX9_goes_122 : decode cX9_goes 122 = .ok (.aload_n 0, 1) := by decide +kernel
theorem dX9_goes_123 : decode cX9_goes 123 = .ok (.iload 5, 2) := by decide +kernel
theorem dX9_goes_125 : decode cX9_goes 125 = .ok (.iload_n 1, 1) := by decide +kernel
theorem dX9_goes_126 : decode cX9_goes 126 = .ok (.invokevirtual 165, 3) := by decide +kernel
theorem dX9_goes_129 : decode cX9_goes 129 = .ok (.ifCond .eq 26, 3) := by decide +kernel
theorem dX9_goes_132 : decode cX9_goes 132 = .ok (.aload_n 0, 1) := by decide +kernel
theorem dX9_goes_133 : decode cX9_goes 133 = .ok (.getfield 53, 3) := by decide +kernel
theorem dX9_goes_136 : decode cX9_goes 136 = .ok (.iload_n 1, 1) := by decide +kernel
theorem dX9_goes_137 : decode cX9_goes 137 = .ok (.aload_n 0, 1) := by decide +kernel
theorem dX9_goes_138 : decode cX9_goes 138 = .ok (.getfield 7, 3) := by decide +kernel
theorem dX9_goes_141 : decode cX9_goes 141 = .ok (.aload_n 0, 1) := by decide +kernel
theorem dX9_goes_142 : decode cX9_goes 142 = .ok (.getfield 50, 3) := by decide +kernel
theorem dX9_goes_145 : decode cX9_goes 145 = .ok (.iload_n 1, 1) := by decide +kernel
theorem dX9_goes_146 : decode cX9_goes 146 = .ok (.iaload, 1) := by decide +kernel
theorem dX9_goes_147 : decode cX9_goes 147 = .ok (.iaload, 1) := by decide +kernel
theorem dX9_goes_148 : decode cX9_goes 148 = .ok (.iastore, 1) := by decide +kernel
theorem dX9_goes_149 : decode cX9_goes 149 = .ok (.iconst 0, 1) := by decide +kernel
theorem dX9_goes_150 : decode cX9_goes 150 = .ok (.istore 4, 2) := by decide +kernel
theorem dX9_goes_152 : decode cX9_goes 152 = .ok (.goto 31, 3) := by decide +kernel
theorem dX9_goes_155 : decode cX9_goes 155 = .ok (.aload_n 0, 1) := by decide +kernel
theorem dX9_goes_156 : decode cX9_goes 156 = .ok (.getfield 53, 3) := by decide +kernel
theorem dX9_goes_159 : decode cX9_goes 159 = .ok (.iload_n 1, 1) := by decide +kernel
theorem dX9_goes_160 : decode cX9_goes 160 = .ok (.dup2, 1) := by decide +kernel
theorem dX9_goes_161 : decode cX9_goes 161 = .ok (.iaload, 1) := by decide +kernel
theorem dX9_goes_162 : decode cX9_goes 162 = .ok (.aload_n 0, 1) := by decide +kernel
theorem dX9_goes_163 : decode cX9_goes 163 = .ok (.getfield 7, 3) := by decide +kernel
theorem dX9_goes_166 : decode cX9_goes 166 = .ok (.aload_n 0, 1) := by decide +kernel
theorem dX9_goes_167 : decode cX9_goes 167 = .ok (.getfield 50, 3) := by decide +kernel
theorem dX9_goes_170 : decode cX9_goes 170 = .ok (.iload_n 1, 1) := by decide +kernel
theorem dX9_goes_171 : decode cX9_goes 171 = .ok (.iaload, 1) := by decide +kernel
theorem dX9_goes_172 : decode cX9_goes 172 = .ok (.iaload, 1) := by decide +kernel
theorem dX9_goes_173 : decode cX9_goes 173 = .ok (.isub, 1) := by decide +kernel
theorem dX9_goes_174 : decode cX9_goes 174 = .ok (.iastore, 1) := by decide +kernel
theorem dX9_goes_175 : decode cX9_goes 175 = .ok (.aload_n 0, 1) := by decide +kernel
theorem dX9_goes_176 : decode cX9_goes 176 = .ok (.getfield 50, 3) := by decide +kernel
theorem dX9_goes_179 : decode cX9_goes 179 = .ok (.iload_n 1, 1) := by decide +kernel
theorem dX9_goes_180 : decode cX9_goes 180 = .ok (.iload 5, 2) := by decide +kernel
theorem dX9_goes_182 : decode cX9_goes 182 = .ok (.iastore, 1) := by decide +kernel
theorem dX9_goes_183 : decode cX9_goes 183 = .ok (.goto (-170), 3) := by decide +kernel
theorem dX9_goes_186 : decode cX9_goes 186 = .ok (.return_, 1) := by decide +kernel
theorem dX9_races_0 : decode cX9_races 0 = .ok (.iconst 0, 1) := by decide +kernel
theorem dX9_races_1 : decode cX9_races 1 = .ok (.istore_n 2, 1) := by decide +kernel
theorem dX9_races_2 : decode cX9_races 2 = .ok (.iload_n 2, 1) := by decide +kernel
theorem dX9_races_3 : decode cX9_races 3 = .ok (.aload_n 0, 1) := by decide +kernel
theorem dX9_races_4 : decode cX9_races 4 = .ok (.getfield 74, 3) := by decide +kernel
theorem dX9_races_7 : decode cX9_races 7 = .ok (.if_icmp .ge 30, 3) := by decide +kernel
theorem dX9_races_10 : decode cX9_races 10 = .ok (.aload_n 0, 1) := by decide +kernel
theorem dX9_races_11 : decode cX9_races 11 = .ok (.getfield 50, 3) := by decide +kernel
theorem dX9_races_14 : decode cX9_races 14 = .ok (.iload_n 2, 1) := by decide +kernel
theorem dX9_races_15 : decode cX9_races 15 = .ok (.iconst 0, 1) := by decide +kernel
theorem dX9_races_16 : decode cX9_races 16 = .ok (.iastore, 1) := by decide +kernel
theorem dX9_races_17 : decode cX9_races 17 = .ok (.aload_n 0, 1) := by decide +kernel
theorem dX9_races_18 : decode cX9_races 18 = .ok (.getfield 53, 3) := by decide +kernel
theorem dX9_races_21 : decode cX9_races 21 = .ok (.iload_n 2, 1) := by decide +kernel
theorem dX9_races_22 : decode cX9_races 22 = .ok (.iconst 0, 1) := by decide +kernel
theorem dX9_races_23 : decode cX9_races 23 = .ok (.iastore, 1) := by decide +kernel
theorem dX9_races_24 : decode cX9_races 24 = .ok (.aload_n 0, 1) := by decide +kernel
theorem dX9_races_25 : decode cX9_races 25 = .ok (.getfield 56, 3) := by decide +kernel
theorem dX9_races_28 : decode cX9_races 28 = .ok (.iload_n 2, 1) := by decide +kernel
theorem dX9_races_29 : decode cX9_races 29 = .ok (.iconst 0, 1) := by decide +kernel
theorem dX9_races_30 : decode cX9_races 30 = .ok (.iastore, 1) := by decide +kernel
theorem dX9_races_31 : decode cX9_races 31 = .ok (.iinc 2 1, 3) := by decide +kernel
theorem dX9_races_34 : decode cX9_races 34 = .ok (.goto (-32), 3) := by decide +kernel
theorem dX9_races_37 : decode cX9_races 37 = .ok (.aload_n 0, 1) := by decide +kernel
theorem dX9_races_38 : decode cX9_races 38 = .ok (.iconst 0, 1) := by decide +kernel
theorem dX9_races_39 : decode cX9_races 39 = .ok (.putfield 162, 3) := by decide +kernel
theorem dX9_races_42 : decode cX9_races 42 = .ok (.iconst 1, 1) := by decide +kernel
theorem dX9_races_43 : decode cX9_races 43 = .ok (.istore_n 2, 1) := by decide +kernel
theorem dX9_races_44 : decode cX9_races 44 = .ok (.aload_n 0, 1) := by decide +kernel
theorem dX9_races_45 : decode cX9_races 45 = .ok (.getfield 162, 3) := by decide +kernel
theorem dX9_races_48 : decode cX9_races 48 = .ok (.aload_n 0, 1) := by decide +kernel
theorem dX9_races_49 : decode cX9_races 49 = .ok (.getfield 74, 3) := by decide +kernel
theorem dX9_races_52 : decode cX9_races 52 = .ok (.if_icmp .ge 58, 3) := by decide +kernel
theorem dX9_races_55 : decode cX9_races 55 = .ok (.iconst 0, 1) := by decide +kernel
theorem dX9_races_56 : decode cX9_races 56 = .ok (.istore_n 3, 1) := by decide +kernel
theorem dX9_races_57 : decode cX9_races 57 = .ok (.iload_n 3, 1) := by decide +kernel
theorem dX9_races_58 : decode cX9_races 58 = .ok (.aload_n 0, 1) := by decide +kernel
theorem dX9_races_59 : decode cX9_races 59 = .ok (.getfield 74, 3) := by decide +kernel
theorem dX9_races_62 : decode cX9_races 62 = .ok (.if_icmp .ge 42, 3) := by decide +kernel
theorem dX9_races_65 : decode cX9_races 65 = .ok (.aload_n 0, 1) := by decide +kernel
theorem dX9_races_66 : decode cX9_races 66 = .ok (.getfield 56, 3) := by decide +kernel
theorem dX9_races_69 : decode cX9_races 69 = .ok (.iload_n 3, 1) := by decide +kernel
theorem dX9_races_70 : decode cX9_races 70 = .ok (.iaload, 1) := by decide +kernel
theorem dX9_races_71 : decode cX9_races 71 = .ok (.ifCond .ne 27, 3) := by decide +kernel
theorem dX9_races_74 : decode cX9_races 74 = .ok (.aload_n 0, 1) := by decide +kernel
theorem dX9_races_75 : decode cX9_races 75 = .ok (.getfield 47, 3) := by decide +kernel
theorem dX9_races_78 : decode cX9_races 78 = .ok (.iconst 5, 1) := by decide +kernel
theorem dX9_races_79 : decode cX9_races 79 = .ok (.iload_n 3, 1) := by decide +kernel
theorem dX9_races_80 : decode cX9_races 80 = .ok (.iadd, 1) := by decide +kernel
theorem dX9_races_81 : decode cX9_races 81 = .ok (.iaload, 1) := by decide +kernel
theorem dX9_races_82 : decode cX9_races 82 = .ok (.iload_n 2, 1) := by decide +kernel
theorem dX9_races_83 : decode cX9_races 83 = .ok (.if_icmp .ge 15, 3) := by decide +kernel
theorem dX9_races_86 : decode cX9_races 86 = .ok (.aload_n 0, 1) := by decide +kernel
theorem dX9_races_87 : decode cX9_races 87 = .ok (.iload_n 3, 1) := by decide +kernel
theorem dX9_races_88 : decode cX9_races 88 = .ok (.iload_n 2, 1) := by decide +kernel
theorem dX9_races_89 : decode cX9_races 89 = .ok (.aload_n 0, 1) := by decide +kernel
theorem dX9_races_90 : decode cX9_races 90 = .ok (.iload_n 3, 1) := by decide +kernel
theorem dX9_races_91 : decode cX9_races 91 = .ok (.iload_n 1, 1) := by decide +kernel
theorem dX9_races_92 : decode cX9_races 92 = .ok (.invokevirtual 168, 3) := by decide +kernel
theorem dX9_races_95 : decode cX9_races 95 = .ok (.invokevirtual 171, 3) := by decide +kernel
theorem dX9_races_98 : decode cX9_races 98 = .ok (.iinc 3 1, 3) := by decide +kernel
theorem dX9_races_101 : decode cX9_races 101 = .ok (.goto (-44), 3) := by decide +kernel
theorem dX9_races_104 : decode cX9_races 104 = .ok (.iinc 2 1, 3) := by decide +kernel
theorem dX9_races_107 : decode cX9_races 107 = .ok (.goto (-63), 3) := by decide +kernel
theorem dX9_races_110 : decode cX9_races 110 = .ok (.return_, 1) := by decide +kernel
theorem dX9_aloneOf_0 : decode cX9_aloneOf 0 = .ok (.iconst 0, 1) := by decide +kernel
theorem dX9_aloneOf_1 : decode cX9_aloneOf 1 = .ok (.istore_n 2, 1) := by decide +kernel
theorem dX9_aloneOf_2 : decode cX9_aloneOf 2 = .ok (.iconst 0, 1) := by decide +kernel
theorem dX9_aloneOf_3 : decode cX9_aloneOf 3 = .ok (.istore_n 3, 1) := by decide +kernel
theorem dX9_aloneOf_4 : decode cX9_aloneOf 4 = .ok (.aload_n 0, 1) := by decide +kernel
theorem dX9_aloneOf_5 : decode cX9_aloneOf 5 = .ok (.getfield 47, 3) := by decide +kernel
theorem dX9_aloneOf_8 : decode cX9_aloneOf 8 = .ok (.iconst 5, 1) := by decide +kernel
theorem dX9_aloneOf_9 : decode cX9_aloneOf 9 = .ok (.iload_n 1, 1) := by decide +kernel
theorem dX9_aloneOf_10 : decode cX9_aloneOf 10 = .ok (.iadd, 1) := by decide +kernel
theorem dX9_aloneOf_11 : decode cX9_aloneOf 11 = .ok (.iaload, 1) := by decide +kernel
theorem dX9_aloneOf_12 : decode cX9_aloneOf 12 = .ok (.istore 4, 2) := by decide +kernel
theorem dX9_aloneOf_14 : decode cX9_aloneOf 14 = .ok (.iload_n 2, 1) := by decide +kernel
theorem dX9_aloneOf_15 : decode cX9_aloneOf 15 = .ok (.aload_n 0, 1) := by decide +kernel
theorem dX9_aloneOf_16 : decode cX9_aloneOf 16 = .ok (.getfield 81, 3) := by decide +kernel
theorem dX9_aloneOf_19 : decode cX9_aloneOf 19 = .ok (.if_icmp .ge 48, 3) := by decide +kernel
theorem dX9_aloneOf_22 : decode cX9_aloneOf 22 = .ok (.iinc 4 1, 3) := by decide +kernel
theorem dX9_aloneOf_25 : decode cX9_aloneOf 25 = .ok (.iload_n 3, 1) := by decide +kernel
theorem dX9_aloneOf_26 : decode cX9_aloneOf 26 = .ok (.aload_n 0, 1) := by decide +kernel
theorem dX9_aloneOf_27 : decode cX9_aloneOf 27 = .ok (.iload_n 1, 1) := by decide +kernel
theorem dX9_aloneOf_28 : decode cX9_aloneOf 28 = .ok (.iconst 0, 1) := by decide +kernel
theorem dX9_aloneOf_29 : decode cX9_aloneOf 29 = .ok (.invokevirtual 168, 3) := by decide +kernel
theorem dX9_aloneOf_32 : decode cX9_aloneOf 32 = .ok (.iadd, 1) := by decide +kernel
theorem dX9_aloneOf_33 : decode cX9_aloneOf 33 = .ok (.istore_n 3, 1) := by decide +kernel
theorem dX9_aloneOf_34 : decode cX9_aloneOf 34 = .ok (.iload_n 2, 1) := by decide +kernel
theorem dX9_aloneOf_35 : decode cX9_aloneOf 35 = .ok (.aload_n 0, 1) := by decide +kernel
theorem dX9_aloneOf_36 : decode cX9_aloneOf 36 = .ok (.getfield 81, 3) := by decide +kernel
theorem dX9_aloneOf_39 : decode cX9_aloneOf 39 = .ok (.if_icmp .ge (-25), 3) := by decide +kernel
theorem dX9_aloneOf_42 : decode cX9_aloneOf 42 = .ok (.iload_n 3, 1) := by decide +kernel
theorem dX9_aloneOf_43 : decode cX9_aloneOf 43 = .ok (.aload_n 0, 1) := by decide +kernel
theorem dX9_aloneOf_44 : decode cX9_aloneOf 44 = .ok (.getfield 7, 3) := by decide +kernel
theorem dX9_aloneOf_47 : decode cX9_aloneOf 47 = .ok (.iload_n 2, 1) := by decide +kernel
theorem dX9_aloneOf_48 : decode cX9_aloneOf 48 = .ok (.iaload, 1) := by decide +kernel
theorem dX9_aloneOf_49 : decode cX9_aloneOf 49 = .ok (.if_icmp .lt (-35), 3) := by decide +kernel
theorem dX9_aloneOf_52 : decode cX9_aloneOf 52 = .ok (.iload_n 3, 1) := by decide +kernel
theorem dX9_aloneOf_53 : decode cX9_aloneOf 53 = .ok (.aload_n 0, 1) := by decide +kernel
theorem dX9_aloneOf_54 : decode cX9_aloneOf 54 = .ok (.getfield 7, 3) := by decide +kernel
theorem dX9_aloneOf_57 : decode cX9_aloneOf 57 = .ok (.iload_n 2, 1) := by decide +kernel
theorem dX9_aloneOf_58 : decode cX9_aloneOf 58 = .ok (.iaload, 1) := by decide +kernel
theorem dX9_aloneOf_59 : decode cX9_aloneOf 59 = .ok (.isub, 1) := by decide +kernel
theorem dX9_aloneOf_60 : decode cX9_aloneOf 60 = .ok (.istore_n 3, 1) := by decide +kernel
theorem dX9_aloneOf_61 : decode cX9_aloneOf 61 = .ok (.iinc 2 1, 3) := by decide +kernel
theorem dX9_aloneOf_64 : decode cX9_aloneOf 64 = .ok (.goto (-30), 3) := by decide +kernel
theorem dX9_aloneOf_67 : decode cX9_aloneOf 67 = .ok (.iload 4, 2) := by decide +kernel
theorem dX9_aloneOf_69 : decode cX9_aloneOf 69 = .ok (.ireturn, 1) := by decide +kernel
theorem dX9_chair_0 : decode cX9_chair 0 = .ok (.aload_n 0, 1) := by decide +kernel
theorem dX9_chair_1 : decode cX9_chair 1 = .ok (.iload_n 1, 1) := by decide +kernel
theorem dX9_chair_2 : decode cX9_chair 2 = .ok (.invokevirtual 175, 3) := by decide +kernel
theorem dX9_chair_5 : decode cX9_chair 5 = .ok (.ifCond .ne 5, 3) := by decide +kernel
theorem dX9_chair_8 : decode cX9_chair 8 = .ok (.iconst (-1), 1) := by decide +kernel
theorem dX9_chair_9 : decode cX9_chair 9 = .ok (.ireturn, 1) := by decide +kernel
theorem dX9_chair_10 : decode cX9_chair 10 = .ok (.aload_n 0, 1) := by decide +kernel
theorem dX9_chair_11 : decode cX9_chair 11 = .ok (.invokevirtual 178, 3) := by decide +kernel
theorem dX9_chair_14 : decode cX9_chair 14 = .ok (.iload_n 2, 1) := by decide +kernel
theorem dX9_chair_15 : decode cX9_chair 15 = .ok (.tableswitch 107 0 6 #[41, 41, 52, 61, 70, 90, 97], 41) := by decide +kernel
theorem dX9_chair_56 : decode cX9_chair 56 = .ok (.aload_n 0, 1) := by decide +kernel
theorem dX9_chair_57 : decode cX9_chair 57 = .ok (.getfield 13, 3) := by decide +kernel
theorem dX9_chair_60 : decode cX9_chair 60 = .ok (.iconst 2, 1) := by decide +kernel
theorem dX9_chair_61 : decode cX9_chair 61 = .ok (.iload_n 1, 1) := by decide +kernel
theorem dX9_chair_62 : decode cX9_chair 62 = .ok (.imul, 1) := by decide +kernel
theorem dX9_chair_63 : decode cX9_chair 63 = .ok (.iload_n 2, 1) := by decide +kernel
theorem dX9_chair_64 : decode cX9_chair 64 = .ok (.iadd, 1) := by decide +kernel
theorem dX9_chair_65 : decode cX9_chair 65 = .ok (.iaload, 1) := by decide +kernel
theorem dX9_chair_66 : decode cX9_chair 66 = .ok (.ireturn, 1) := by decide +kernel
theorem dX9_chair_67 : decode cX9_chair 67 = .ok (.aload_n 0, 1) := by decide +kernel
theorem dX9_chair_68 : decode cX9_chair 68 = .ok (.getfield 19, 3) := by decide +kernel
theorem dX9_chair_71 : decode cX9_chair 71 = .ok (.iconst 0, 1) := by decide +kernel
theorem dX9_chair_72 : decode cX9_chair 72 = .ok (.iload_n 1, 1) := by decide +kernel
theorem dX9_chair_73 : decode cX9_chair 73 = .ok (.iadd, 1) := by decide +kernel
theorem dX9_chair_74 : decode cX9_chair 74 = .ok (.iaload, 1) := by decide +kernel
theorem dX9_chair_75 : decode cX9_chair 75 = .ok (.ireturn, 1) := by decide +kernel
theorem dX9_chair_76 : decode cX9_chair 76 = .ok (.aload_n 0, 1) := by decide +kernel
theorem dX9_chair_77 : decode cX9_chair 77 = .ok (.getfield 19, 3) := by decide +kernel
theorem dX9_chair_80 : decode cX9_chair 80 = .ok (.iconst 5, 1) := by decide +kernel
theorem dX9_chair_81 : decode cX9_chair 81 = .ok (.iload_n 1, 1) := by decide +kernel
theorem dX9_chair_82 : decode cX9_chair 82 = .ok (.iadd, 1) := by decide +kernel
theorem dX9_chair_83 : decode cX9_chair 83 = .ok (.iaload, 1) := by decide +kernel
theorem dX9_chair_84 : decode cX9_chair 84 = .ok (.ireturn, 1) := by decide +kernel
theorem dX9_chair_85 : decode cX9_chair 85 = .ok (.aload_n 0, 1) := by decide +kernel
theorem dX9_chair_86 : decode cX9_chair 86 = .ok (.getfield 19, 3) := by decide +kernel
theorem dX9_chair_89 : decode cX9_chair 89 = .ok (.bipush 10, 2) := by decide +kernel
theorem dX9_chair_91 : decode cX9_chair 91 = .ok (.iaload, 1) := by decide +kernel
theorem dX9_chair_92 : decode cX9_chair 92 = .ok (.iload_n 1, 1) := by decide +kernel
theorem dX9_chair_93 : decode cX9_chair 93 = .ok (.invokestatic 158, 3) := by decide +kernel
theorem dX9_chair_96 : decode cX9_chair 96 = .ok (.ifCond .eq 7, 3) := by decide +kernel
theorem dX9_chair_99 : decode cX9_chair 99 = .ok (.iconst 1, 1) := by decide +kernel
theorem dX9_chair_100 : decode cX9_chair 100 = .ok (.goto 4, 3) := by decide +kernel
theorem dX9_chair_103 : decode cX9_chair 103 = .ok (.iconst 0, 1) := by decide +kernel
theorem dX9_chair_104 : decode cX9_chair 104 = .ok (.ireturn, 1) := by decide +kernel
theorem dX9_chair_105 : decode cX9_chair 105 = .ok (.aload_n 0, 1) := by decide +kernel
theorem dX9_chair_106 : decode cX9_chair 106 = .ok (.iload_n 1, 1) := by decide +kernel
theorem dX9_chair_107 : decode cX9_chair 107 = .ok (.iconst 0, 1) := by decide +kernel
theorem dX9_chair_108 : decode cX9_chair 108 = .ok (.invokevirtual 168, 3) := by decide +kernel
theorem dX9_chair_111 : decode cX9_chair 111 = .ok (.ireturn, 1) := by decide +kernel
theorem dX9_chair_112 : decode cX9_chair 112 = .ok (.aload_n 0, 1) := by decide +kernel
theorem dX9_chair_113 : decode cX9_chair 113 = .ok (.getfield 19, 3) := by decide +kernel
theorem dX9_chair_116 : decode cX9_chair 116 = .ok (.bipush 12, 2) := by decide +kernel
theorem dX9_chair_118 : decode cX9_chair 118 = .ok (.iload_n 1, 1) := by decide +kernel
theorem dX9_chair_119 : decode cX9_chair 119 = .ok (.iadd, 1) := by decide +kernel
theorem dX9_chair_120 : decode cX9_chair 120 = .ok (.iaload, 1) := by decide +kernel
theorem dX9_chair_121 : decode cX9_chair 121 = .ok (.ireturn, 1) := by decide +kernel
theorem dX9_chair_122 : decode cX9_chair 122 = .ok (.iconst (-1), 1) := by decide +kernel
theorem dX9_chair_123 : decode cX9_chair 123 = .ok (.ireturn, 1) := by decide +kernel
theorem dX9_pusher_0 : decode cX9_pusher 0 = .ok (.aload_n 0, 1) := by decide +kernel
theorem dX9_pusher_1 : decode cX9_pusher 1 = .ok (.iload_n 1, 1) := by decide +kernel
theorem dX9_pusher_2 : decode cX9_pusher 2 = .ok (.invokevirtual 175, 3) := by decide +kernel
theorem dX9_pusher_5 : decode cX9_pusher 5 = .ok (.ifCond .eq 12, 3) := by decide +kernel
theorem dX9_pusher_8 : decode cX9_pusher 8 = .ok (.aload_n 0, 1) := by decide +kernel
theorem dX9_pusher_9 : decode cX9_pusher 9 = .ok (.getfield 16, 3) := by decide +kernel
theorem dX9_pusher_12 : decode cX9_pusher 12 = .ok (.iload_n 1, 1) := by decide +kernel
theorem dX9_pusher_13 : decode cX9_pusher 13 = .ok (.iaload, 1) := by decide +kernel
theorem dX9_pusher_14 : decode cX9_pusher 14 = .ok (.goto 4, 3) := by decide +kernel
theorem dX9_pusher_17 : decode cX9_pusher 17 = .ok (.iconst (-1), 1) := by decide +kernel
theorem dX9_pusher_18 : decode cX9_pusher 18 = .ok (.ireturn, 1) := by decide +kernel
theorem dX9_cell_0 : decode cX9_cell 0 = .ok (.iload_n 1, 1) := by decide +kernel
theorem dX9_cell_1 : decode cX9_cell 1 = .ok (.iconst 0, 1) := by decide +kernel
theorem dX9_cell_2 : decode cX9_cell 2 = .ok (.aload_n 0, 1) := by decide +kernel
theorem dX9_cell_3 : decode cX9_cell 3 = .ok (.getfield 81, 3) := by decide +kernel
theorem dX9_cell_6 : decode cX9_cell 6 = .ok (.iconst 1, 1) := by decide +kernel
theorem dX9_cell_7 : decode cX9_cell 7 = .ok (.isub, 1) := by decide +kernel
theorem dX9_cell_8 : decode cX9_cell 8 = .ok (.invokestatic 78, 3) := by decide +kernel
theorem dX9_cell_11 : decode cX9_cell 11 = .ok (.ifCond .eq 12, 3) := by decide +kernel
theorem dX9_cell_14 : decode cX9_cell 14 = .ok (.aload_n 0, 1) := by decide +kernel
theorem dX9_cell_15 : decode cX9_cell 15 = .ok (.getfield 7, 3) := by decide +kernel
theorem dX9_cell_18 : decode cX9_cell 18 = .ok (.iload_n 1, 1) := by decide +kernel
theorem dX9_cell_19 : decode cX9_cell 19 = .ok (.iaload, 1) := by decide +kernel
theorem dX9_cell_20 : decode cX9_cell 20 = .ok (.goto 4, 3) := by decide +kernel
theorem dX9_cell_23 : decode cX9_cell 23 = .ok (.iconst (-1), 1) := by decide +kernel
theorem dX9_cell_24 : decode cX9_cell 24 = .ok (.ireturn, 1) := by decide +kernel
theorem dX9_ruled_0 : decode cX9_ruled 0 = .ok (.bipush (-9), 2) := by decide +kernel
theorem dX9_ruled_2 : decode cX9_ruled 2 = .ok (.istore_n 1, 1) := by decide +kernel
theorem dX9_ruled_3 : decode cX9_ruled 3 = .ok (.iconst 0, 1) := by decide +kernel
theorem dX9_ruled_4 : decode cX9_ruled 4 = .ok (.istore_n 2, 1) := by decide +kernel
theorem dX9_ruled_5 : decode cX9_ruled 5 = .ok (.iconst 0, 1) := by decide +kernel
theorem dX9_ruled_6 : decode cX9_ruled 6 = .ok (.istore_n 3, 1) := by decide +kernel
theorem dX9_ruled_7 : decode cX9_ruled 7 = .ok (.iload_n 3, 1) := by decide +kernel
theorem dX9_ruled_8 : decode cX9_ruled 8 = .ok (.iconst 4, 1) := by decide +kernel
theorem dX9_ruled_9 : decode cX9_ruled 9 = .ok (.if_icmp .ge 89, 3) := by decide +kernel
theorem dX9_ruled_12 : decode cX9_ruled 12 = .ok (.iconst 0, 1) := by decide +kernel
theorem dX9_ruled_13 : decode cX9_ruled 13 = .ok (.istore 4, 2) := by decide +kernel
theorem dX9_ruled_15 : decode cX9_ruled 15 = .ok (.iconst 0, 1) := by decide +kernel
theorem dX9_ruled_16 : decode cX9_ruled 16 = .ok (.istore 5, 2) := by decide +kernel
theorem dX9_ruled_18 : decode cX9_ruled 18 = .ok (.iload 5, 2) := by decide +kernel
theorem dX9_ruled_20 : decode cX9_ruled 20 = .ok (.aload_n 0, 1) := by decide +kernel
theorem dX9_ruled_21 : decode cX9_ruled 21 = .ok (.getfield 74, 3) := by decide +kernel
theorem dX9_ruled_24 : decode cX9_ruled 24 = .ok (.if_icmp .ge 43, 3) := by decide +kernel
theorem dX9_ruled_27 : decode cX9_ruled 27 = .ok (.iload 4, 2) := by decide +kernel
theorem dX9_ruled_29 : decode cX9_ruled 29 = .ok (.aload_n 0, 1) := by decide +kernel
theorem dX9_ruled_30 : decode cX9_ruled 30 = .ok (.getfield 13, 3) := by decide +kernel
theorem dX9_ruled_33 : decode cX9_ruled 33 = .ok (.iconst 2, 1) := by decide +kernel
theorem dX9_ruled_34 : decode cX9_ruled 34 = .ok (.iload 5, 2) := by decide +kernel
theorem dX9_ruled_36 : decode cX9_ruled 36 = .ok (.imul, 1) := by decide +kernel
theorem dX9_ruled_37 : decode cX9_ruled 37 = .ok (.iconst 1, 1) := by decide +kernel
theorem dX9_ruled_38 : decode cX9_ruled 38 = .ok (.iadd, 1) := by decide +kernel
theorem dX9_ruled_39 : decode cX9_ruled 39 = .ok (.iaload, 1) := by decide +kernel
theorem dX9_ruled_40 : decode cX9_ruled 40 = .ok (.iload_n 3, 1) := by decide +kernel
theorem dX9_ruled_41 : decode cX9_ruled 41 = .ok (.if_icmp .ne 16, 3) := by decide +kernel
theorem dX9_ruled_44 : decode cX9_ruled 44 = .ok (.aload_n 0, 1) := by decide +kernel
theorem dX9_ruled_45 : decode cX9_ruled 45 = .ok (.getfield 19, 3) := by decide +kernel
theorem dX9_ruled_48 : decode cX9_ruled 48 = .ok (.bipush 12, 2) := by decide +kernel
theorem dX9_ruled_50 : decode cX9_ruled 50 = .ok (.iload 5, 2) := by decide +kernel
theorem dX9_ruled_52 : decode cX9_ruled 52 = .ok (.iadd, 1) := by decide +kernel
theorem dX9_ruled_53 : decode cX9_ruled 53 = .ok (.iaload, 1) := by decide +kernel
theorem dX9_ruled_54 : decode cX9_ruled 54 = .ok (.goto 4, 3) := by decide +kernel
theorem dX9_ruled_57 : decode cX9_ruled 57 = .ok (.iconst 0, 1) := by decide +kernel
theorem dX9_ruled_58 : decode cX9_ruled 58 = .ok (.iadd, 1) := by decide +kernel
theorem dX9_ruled_59 : decode cX9_ruled 59 = .ok (.istore 4, 2) := by decide +kernel
theorem dX9_ruled_61 : decode cX9_ruled 61 = .ok (.iinc 5 1, 3) := by decide +kernel
theorem dX9_ruled_64 : decode cX9_ruled 64 = .ok (.goto (-46), 3) := by decide +kernel
theorem dX9_ruled_67 : decode cX9_ruled 67 = .ok (.iload 4, 2) := by decide +kernel
theorem dX9_ruled_69 : decode cX9_ruled 69 = .ok (.iload_n 2, 1) := by decide +kernel
theorem dX9_ruled_70 : decode cX9_ruled 70 = .ok (.if_icmp .le 7, 3) := by decide +kernel
theorem dX9_ruled_73 : decode cX9_ruled 73 = .ok (.iload_n 3, 1) := by decide +kernel
theorem dX9_ruled_74 : decode cX9_ruled 74 = .ok (.goto 4, 3) := by decide +kernel
theorem dX9_ruled_77 : decode cX9_ruled 77 = .ok (.iload_n 1, 1) := by decide +kernel
theorem dX9_ruled_78 : decode cX9_ruled 78 = .ok (.istore_n 1, 1) := by decide +kernel
theorem dX9_ruled_79 : decode cX9_ruled 79 = .ok (.iload 4, 2) := by decide +kernel
theorem dX9_ruled_81 : decode cX9_ruled 81 = .ok (.iload_n 2, 1) := by decide +kernel
theorem dX9_ruled_82 : decode cX9_ruled 82 = .ok (.if_icmp .le 8, 3) := by decide +kernel
theorem dX9_ruled_85 : decode cX9_ruled 85 = .ok (.iload 4, 2) := by decide +kernel
theorem dX9_ruled_87 : decode cX9_ruled 87 = .ok (.goto 4, 3) := by decide +kernel
theorem dX9_ruled_90 : decode cX9_ruled 90 = .ok (.iload_n 2, 1) := by decide +kernel
theorem dX9_ruled_91 : decode cX9_ruled 91 = .ok (.istore_n 2, 1) := by decide +kernel
theorem dX9_ruled_92 : decode cX9_ruled 92 = .ok (.iinc 3 1, 3) := by decide +kernel
theorem dX9_ruled_95 : decode cX9_ruled 95 = .ok (.goto (-88), 3) := by decide +kernel
theorem dX9_ruled_98 : decode cX9_ruled 98 = .ok (.iload_n 1, 1) := by decide +kernel
theorem dX9_ruled_99 : decode cX9_ruled 99 = .ok (.ireturn, 1) := by decide +kernel
theorem dX9_isSo_0 : decode cX9_isSo 0 = .ok (.aload_n 0, 1) := by decide +kernel
theorem dX9_isSo_1 : decode cX9_isSo 1 = .ok (.invokevirtual 178, 3) := by decide +kernel
theorem dX9_isSo_4 : decode cX9_isSo 4 = .ok (.aload_n 0, 1) := by decide +kernel
theorem dX9_isSo_5 : decode cX9_isSo 5 = .ok (.getfield 47, 3) := by decide +kernel
theorem dX9_isSo_8 : decode cX9_isSo 8 = .ok (.bipush 10, 2) := by decide +kernel
theorem dX9_isSo_10 : decode cX9_isSo 10 = .ok (.iload_n 2, 1) := by decide +kernel
theorem dX9_isSo_11 : decode cX9_isSo 11 = .ok (.ifCond .eq 9, 3) := by decide +kernel
theorem dX9_isSo_14 : decode cX9_isSo 14 = .ok (.iconst 1, 1) := by decide +kernel
theorem dX9_isSo_15 : decode cX9_isSo 15 = .ok (.iload_n 1, 1) := by decide +kernel
theorem dX9_isSo_16 : decode cX9_isSo 16 = .ok (.ishl, 1) := by decide +kernel
theorem dX9_isSo_17 : decode cX9_isSo 17 = .ok (.goto 4, 3) := by decide +kernel
theorem dX9_isSo_20 : decode cX9_isSo 20 = .ok (.iconst 0, 1) := by decide +kernel
theorem dX9_isSo_21 : decode cX9_isSo 21 = .ok (.iastore, 1) := by decide +kernel
theorem dX9_isSo_22 : decode cX9_isSo 22 = .ok (.iconst 1, 1) := by decide +kernel
theorem dX9_isSo_23 : decode cX9_isSo 23 = .ok (.istore_n 3, 1) := by decide +kernel
theorem dX9_isSo_24 : decode cX9_isSo 24 = .ok (.iconst 0, 1) := by decide +kernel
theorem dX9_isSo_25 : decode cX9_isSo 25 = .ok (.istore 4, 2) := by decide +kernel
theorem dX9_isSo_27 : decode cX9_isSo 27 = .ok (.iload 4, 2) := by decide +kernel
theorem dX9_isSo_29 : decode cX9_isSo 29 = .ok (.aload_n 0, 1) := by decide +kernel
theorem dX9_isSo_30 : decode cX9_isSo 30 = .ok (.getfield 151, 3) := by decide +kernel
theorem dX9_isSo_33 : decode cX9_isSo 33 = .ok (.if_icmp .ge 51, 3) := by decide +kernel
theorem dX9_isSo_36 : decode cX9_isSo 36 = .ok (.iload_n 3, 1) := by decide +kernel
theorem dX9_isSo_37 : decode cX9_isSo 37 = .ok (.ifCond .eq 39, 3) := by decide +kernel
theorem dX9_isSo_40 : decode cX9_isSo 40 = .ok (.aload_n 0, 1) := by decide +kernel
theorem dX9_isSo_41 : decode cX9_isSo 41 = .ok (.getfield 32, 3) := by decide +kernel
theorem dX9_isSo_44 : decode cX9_isSo 44 = .ok (.iconst 2, 1) := by decide +kernel
theorem dX9_isSo_45 : decode cX9_isSo 45 = .ok (.iload 4, 2) := by decide +kernel
theorem dX9_isSo_47 : decode cX9_isSo 47 = .ok (.imul, 1) := by decide +kernel
theorem dX9_isSo_48 : decode cX9_isSo 48 = .ok (.iaload, 1) := by decide +kernel
theorem dX9_isSo_49 : decode cX9_isSo 49 = .ok (.iload_n 1, 1) := by decide +kernel
theorem dX9_isSo_50 : decode cX9_isSo 50 = .ok (.if_icmp .ne 22, 3) := by decide +kernel
theorem dX9_isSo_53 : decode cX9_isSo 53 = .ok (.aload_n 0, 1) := by decide +kernel
theorem dX9_isSo_54 : decode cX9_isSo 54 = .ok (.getfield 32, 3) := by decide +kernel
theorem dX9_isSo_57 : decode cX9_isSo 57 = .ok (.iconst 2, 1) := by decide +kernel
theorem dX9_isSo_58 : decode cX9_isSo 58 = .ok (.iload 4, 2) := by decide +kernel
theorem dX9_isSo_60 : decode cX9_isSo 60 = .ok (.imul, 1) := by decide +kernel
theorem dX9_isSo_61 : decode cX9_isSo 61 = .ok (.iconst 1, 1) := by decide +kernel
theorem dX9_isSo_62 : decode cX9_isSo 62 = .ok (.iadd, 1) := by decide +kernel
theorem dX9_isSo_63 : decode cX9_isSo 63 = .ok (.iaload, 1) := by decide +kernel
theorem dX9_isSo_64 : decode cX9_isSo 64 = .ok (.aload_n 0, 1) := by decide +kernel
theorem dX9_isSo_65 : decode cX9_isSo 65 = .ok (.iload_n 1, 1) := by decide +kernel
theorem dX9_isSo_66 : decode cX9_isSo 66 = .ok (.invokevirtual 181, 3) := by decide +kernel
theorem dX9_isSo_69 : decode cX9_isSo 69 = .ok (.if_icmp .ne 7, 3) := by decide +kernel
theorem dX9_isSo_72 : decode cX9_isSo 72 = .ok (.iconst 1, 1) := by decide +kernel
theorem dX9_isSo_73 : decode cX9_isSo 73 = .ok (.goto 4, 3) := by decide +kernel
theorem dX9_isSo_76 : decode cX9_isSo 76 = .ok (.iconst 0, 1) := by decide +kernel
theorem dX9_isSo_77 : decode cX9_isSo 77 = .ok (.istore_n 3, 1) := by decide +kernel
theorem dX9_isSo_78 : decode cX9_isSo 78 = .ok (.iinc 4 1, 3) := by decide +kernel
theorem dX9_isSo_81 : decode cX9_isSo 81 = .ok (.goto (-54), 3) := by decide +kernel
theorem dX9_isSo_84 : decode cX9_isSo 84 = .ok (.iload_n 3, 1) := by decide +kernel
theorem dX9_isSo_85 : decode cX9_isSo 85 = .ok (.ireturn, 1) := by decide +kernel
theorem dX9_suspects_0 : decode cX9_suspects 0 = .ok (.iconst 0, 1) := by decide +kernel
theorem dX9_suspects_1 : decode cX9_suspects 1 = .ok (.istore_n 2, 1) := by decide +kernel
theorem dX9_suspects_2 : decode cX9_suspects 2 = .ok (.iconst 0, 1) := by decide +kernel
theorem dX9_suspects_3 : decode cX9_suspects 3 = .ok (.istore_n 3, 1) := by decide +kernel
theorem dX9_suspects_4 : decode cX9_suspects 4 = .ok (.iload_n 3, 1) := by decide +kernel
theorem dX9_suspects_5 : decode cX9_suspects 5 = .ok (.aload_n 0, 1) := by decide +kernel
theorem dX9_suspects_6 : decode cX9_suspects 6 = .ok (.getfield 151, 3) := by decide +kernel
theorem dX9_suspects_9 : decode cX9_suspects 9 = .ok (.if_icmp .ge 70, 3) := by decide +kernel
theorem dX9_suspects_12 : decode cX9_suspects 12 = .ok (.aload_n 0, 1) := by decide +kernel
theorem dX9_suspects_13 : decode cX9_suspects 13 = .ok (.invokevirtual 184, 3) := by decide +kernel
theorem dX9_suspects_16 : decode cX9_suspects 16 = .ok (.ifCond .eq 63, 3) := by decide +kernel
theorem dX9_suspects_19 : decode cX9_suspects 19 = .ok (.aload_n 0, 1) := by decide +kernel
theorem dX9_suspects_20 : decode cX9_suspects 20 = .ok (.getfield 32, 3) := by decide +kernel
theorem dX9_suspects_23 : decode cX9_suspects 23 = .ok (.iconst 2, 1) := by decide +kernel
theorem dX9_suspects_24 : decode cX9_suspects 24 = .ok (.iload_n 3, 1) := by decide +kernel
theorem dX9_suspects_25 : decode cX9_suspects 25 = .ok (.imul, 1) := by decide +kernel
theorem dX9_suspects_26 : decode cX9_suspects 26 = .ok (.iaload, 1) := by decide +kernel
theorem dX9_suspects_27 : decode cX9_suspects 27 = .ok (.istore 4, 2) := by decide +kernel
theorem dX9_suspects_29 : decode cX9_suspects 29 = .ok (.aload_n 0, 1) := by decide +kernel
theorem dX9_suspects_30 : decode cX9_suspects 30 = .ok (.iload 4, 2) := by decide +kernel
theorem dX9_suspects_32 : decode cX9_suspects 32 = .ok (.iconst 0, 1) := by decide +kernel
theorem dX9_suspects_33 : decode cX9_suspects 33 = .ok (.invokevirtual 188, 3) := by decide +kernel
theorem dX9_suspects_36 : decode cX9_suspects 36 = .ok (.ifCond .ne 18, 3) := by decide +kernel
theorem dX9_suspects_39 : decode cX9_suspects 39 = .ok (.aload_n 0, 1) := by decide +kernel
theorem dX9_suspects_40 : decode cX9_suspects 40 = .ok (.iload 4, 2) := by decide +kernel
theorem dX9_suspects_42 : decode cX9_suspects 42 = .ok (.iconst 1, 1) := by decide +kernel
theorem dX9_suspects_43 : decode cX9_suspects 43 = .ok (.invokevirtual 188, 3) := by decide +kernel
theorem dX9_suspects_46 : decode cX9_suspects 46 = .ok (.iload_n 1, 1) := by decide +kernel
theorem dX9_suspects_47 : decode cX9_suspects 47 = .ok (.if_icmp .ne 7, 3) := by decide +kernel
theorem dX9_suspects_50 : decode cX9_suspects 50 = .ok (.iconst 1, 1) := by decide +kernel
theorem dX9_suspects_51 : decode cX9_suspects 51 = .ok (.goto 4, 3) := by decide +kernel
theorem dX9_suspects_54 : decode cX9_suspects 54 = .ok (.iconst 0, 1) := by decide +kernel
theorem dX9_suspects_55 : decode cX9_suspects 55 = .ok (.istore 5, 2) := by decide +kernel
theorem dX9_suspects_57 : decode cX9_suspects 57 = .ok (.iload_n 2, 1) := by decide +kernel
theorem dX9_suspects_58 : decode cX9_suspects 58 = .ok (.iload 5, 2) := by decide +kernel
theorem dX9_suspects_60 : decode cX9_suspects 60 = .ok (.ifCond .eq 10, 3) := by decide +kernel
theorem dX9_suspects_63 : decode cX9_suspects 63 = .ok (.iconst 1, 1) := by decide +kernel
theorem dX9_suspects_64 : decode cX9_suspects 64 = .ok (.iload 4, 2) := by decide +kernel
theorem dX9_suspects_66 : decode cX9_suspects 66 = .ok (.ishl, 1) := by decide +kernel
theorem dX9_suspects_67 : decode cX9_suspects 67 = .ok (.goto 4, 3) := by decide +kernel
theorem dX9_suspects_70 : decode cX9_suspects 70 = .ok (.iconst 0, 1) := by decide +kernel
theorem dX9_suspects_71 : decode cX9_suspects 71 = .ok (.ior, 1) := by decide +kernel
theorem dX9_suspects_72 : decode cX9_suspects 72 = .ok (.istore_n 2, 1) := by decide +kernel
theorem dX9_suspects_73 : decode cX9_suspects 73 = .ok (.iinc 3 1, 3) := by decide +kernel
theorem dX9_suspects_76 : decode cX9_suspects 76 = .ok (.goto (-72), 3) := by decide +kernel
theorem dX9_suspects_79 : decode cX9_suspects 79 = .ok (.iload_n 2, 1) := by decide +kernel
theorem dX9_suspects_80 : decode cX9_suspects 80 = .ok (.ireturn, 1) := by decide +kernel
theorem dX9_first_0 : decode cX9_first 0 = .ok (.aload_n 0, 1) := by decide +kernel
theorem dX9_first_1 : decode cX9_first 1 = .ok (.invokevirtual 178, 3) := by decide +kernel
theorem dX9_first_4 : decode cX9_first 4 = .ok (.aload_n 0, 1) := by decide +kernel
theorem dX9_first_5 : decode cX9_first 5 = .ok (.iconst 0, 1) := by decide +kernel
theorem dX9_first_6 : decode cX9_first 6 = .ok (.invokevirtual 192, 3) := by decide +kernel
theorem dX9_first_9 : decode cX9_first 9 = .ok (.aload_n 0, 1) := by decide +kernel
theorem dX9_first_10 : decode cX9_first 10 = .ok (.getfield 59, 3) := by decide +kernel
theorem dX9_first_13 : decode cX9_first 13 = .ok (.iconst 0, 1) := by decide +kernel
theorem dX9_first_14 : decode cX9_first 14 = .ok (.iaload, 1) := by decide +kernel
theorem dX9_first_15 : decode cX9_first 15 = .ok (.ireturn, 1) := by decide +kernel
theorem dX9_now_0 : decode cX9_now 0 = .ok (.iload_n 1, 1) := by decide +kernel
theorem dX9_now_1 : decode cX9_now 1 = .ok (.tableswitch 95 0 6 #[43, 51, 68, 73, 78, 84, 90], 43) := by decide +kernel
theorem dX9_now_44 : decode cX9_now 44 = .ok (.aload_n 0, 1) := by decide +kernel
theorem dX9_now_45 : decode cX9_now 45 = .ok (.getfield 19, 3) := by decide +kernel
theorem dX9_now_48 : decode cX9_now 48 = .ok (.bipush 11, 2) := by decide +kernel
theorem dX9_now_50 : decode cX9_now 50 = .ok (.iaload, 1) := by decide +kernel
theorem dX9_now_51 : decode cX9_now 51 = .ok (.ireturn, 1) := by decide +kernel
theorem dX9_now_52 : decode cX9_now 52 = .ok (.aload_n 0, 1) := by decide +kernel
theorem dX9_now_53 : decode cX9_now 53 = .ok (.invokevirtual 184, 3) := by decide +kernel
theorem dX9_now_56 : decode cX9_now 56 = .ok (.ifCond .eq 10, 3) := by decide +kernel
theorem dX9_now_59 : decode cX9_now 59 = .ok (.aload_n 0, 1) := by decide +kernel
theorem dX9_now_60 : decode cX9_now 60 = .ok (.invokevirtual 196, 3) := by decide +kernel
theorem dX9_now_63 : decode cX9_now 63 = .ok (.goto 5, 3) := by decide +kernel
theorem dX9_now_66 : decode cX9_now 66 = .ok (.bipush (-9), 2) := by decide +kernel
theorem dX9_now_68 : decode cX9_now 68 = .ok (.ireturn, 1) := by decide +kernel
theorem dX9_now_69 : decode cX9_now 69 = .ok (.aload_n 0, 1) := by decide +kernel
theorem dX9_now_70 : decode cX9_now 70 = .ok (.invokevirtual 200, 3) := by decide +kernel
theorem dX9_now_73 : decode cX9_now 73 = .ok (.ireturn, 1) := by decide +kernel
theorem dX9_now_74 : decode cX9_now 74 = .ok (.aload_n 0, 1) := by decide +kernel
theorem dX9_now_75 : decode cX9_now 75 = .ok (.invokevirtual 203, 3) := by decide +kernel
theorem dX9_now_78 : decode cX9_now 78 = .ok (.ireturn, 1) := by decide +kernel
theorem dX9_now_79 : decode cX9_now 79 = .ok (.aload_n 0, 1) := by decide +kernel
theorem dX9_now_80 : decode cX9_now 80 = .ok (.iconst 1, 1) := by decide +kernel
theorem dX9_now_81 : decode cX9_now 81 = .ok (.invokevirtual 206, 3) := by decide +kernel
theorem dX9_now_84 : decode cX9_now 84 = .ok (.ireturn, 1) := by decide +kernel
theorem dX9_now_85 : decode cX9_now 85 = .ok (.aload_n 0, 1) := by decide +kernel
theorem dX9_now_86 : decode cX9_now 86 = .ok (.iconst 0, 1) := by decide +kernel
theorem dX9_now_87 : decode cX9_now 87 = .ok (.invokevirtual 206, 3) := by decide +kernel
theorem dX9_now_90 : decode cX9_now 90 = .ok (.ireturn, 1) := by decide +kernel
theorem dX9_now_91 : decode cX9_now 91 = .ok (.aload_n 0, 1) := by decide +kernel
theorem dX9_now_92 : decode cX9_now 92 = .ok (.getfield 148, 3) := by decide +kernel
theorem dX9_now_95 : decode cX9_now 95 = .ok (.ireturn, 1) := by decide +kernel
theorem dX9_now_96 : decode cX9_now 96 = .ok (.iconst (-1), 1) := by decide +kernel
theorem dX9_now_97 : decode cX9_now 97 = .ok (.ireturn, 1) := by decide +kernel
theorem dX9_remembers_0 : decode cX9_remembers 0 = .ok (.aload_n 0, 1) := by decide +kernel
theorem dX9_remembers_1 : decode cX9_remembers 1 = .ok (.getfield 148, 3) := by decide +kernel
theorem dX9_remembers_4 : decode cX9_remembers 4 = .ok (.bipush 10, 2) := by decide +kernel
theorem dX9_remembers_6 : decode cX9_remembers 6 = .ok (.if_icmp .ne 43, 3) := by decide +kernel
theorem dX9_remembers_9 : decode cX9_remembers 9 = .ok (.iconst 0, 1) := by decide +kernel
theorem dX9_remembers_10 : decode cX9_remembers 10 = .ok (.istore_n 1, 1) := by decide +kernel
theorem dX9_remembers_11 : decode cX9_remembers 11 = .ok (.iload_n 1, 1) := by decide +kernel
theorem dX9_remembers_12 : decode cX9_remembers 12 = .ok (.sipush 153, 3) := by decide +kernel
theorem dX9_remembers_15 : decode cX9_remembers 15 = .ok (.if_icmp .ge 24, 3) := by decide +kernel
theorem dX9_remembers_18 : decode cX9_remembers 18 = .ok (.aload_n 0, 1) := by decide +kernel
theorem dX9_remembers_19 : decode cX9_remembers 19 = .ok (.getfield 22, 3) := by decide +kernel
theorem dX9_remembers_22 : decode cX9_remembers 22 = .ok (.iload_n 1, 1) := by decide +kernel
theorem dX9_remembers_23 : decode cX9_remembers 23 = .ok (.aload_n 0, 1) := by decide +kernel
theorem dX9_remembers_24 : decode cX9_remembers 24 = .ok (.getfield 22, 3) := by decide +kernel
theorem dX9_remembers_27 : decode cX9_remembers 27 = .ok (.iload_n 1, 1) := by decide +kernel
theorem dX9_remembers_28 : decode cX9_remembers 28 = .ok (.bipush 17, 2) := by decide +kernel
theorem dX9_remembers_30 : decode cX9_remembers 30 = .ok (.iadd, 1) := by decide +kernel
theorem dX9_remembers_31 : decode cX9_remembers 31 = .ok (.iaload, 1) := by decide +kernel
theorem dX9_remembers_32 : decode cX9_remembers 32 = .ok (.iastore, 1) := by decide +kernel
theorem dX9_remembers_33 : decode cX9_remembers 33 = .ok (.iinc 1 1, 3) := by decide +kernel
theorem dX9_remembers_36 : decode cX9_remembers 36 = .ok (.goto (-25), 3) := by decide +kernel
theorem dX9_remembers_39 : decode cX9_remembers 39 = .ok (.aload_n 0, 1) := by decide +kernel
theorem dX9_remembers_40 : decode cX9_remembers 40 = .ok (.dup, 1) := by decide +kernel
theorem dX9_remembers_41 : decode cX9_remembers 41 = .ok (.getfield 148, 3) := by decide +kernel
theorem dX9_remembers_44 : decode cX9_remembers 44 = .ok (.iconst 1, 1) := by decide +kernel
theorem dX9_remembers_45 : decode cX9_remembers 45 = .ok (.isub, 1) := by decide +kernel
theorem dX9_remembers_46 : decode cX9_remembers 46 = .ok (.putfield 148, 3) := by decide +kernel
theorem dX9_remembers_49 : decode cX9_remembers 49 = .ok (.aload_n 0, 1) := by decide +kernel
theorem dX9_remembers_50 : decode cX9_remembers 50 = .ok (.getfield 22, 3) := by decide +kernel
theorem dX9_remembers_53 : decode cX9_remembers 53 = .ok (.bipush 17, 2) := by decide +kernel
theorem dX9_remembers_55 : decode cX9_remembers 55 = .ok (.aload_n 0, 1) := by decide +kernel
theorem dX9_remembers_56 : decode cX9_remembers 56 = .ok (.getfield 148, 3) := by decide +kernel
theorem dX9_remembers_59 : decode cX9_remembers 59 = .ok (.imul, 1) := by decide +kernel
theorem dX9_remembers_60 : decode cX9_remembers 60 = .ok (.aload_n 0, 1) := by decide +kernel
theorem dX9_remembers_61 : decode cX9_remembers 61 = .ok (.getfield 19, 3) := by decide +kernel
theorem dX9_remembers_64 : decode cX9_remembers 64 = .ok (.iconst 0, 1) := by decide +kernel
theorem dX9_remembers_65 : decode cX9_remembers 65 = .ok (.invokestatic 154, 3) := by decide +kernel
theorem dX9_remembers_68 : decode cX9_remembers 68 = .ok (.aload_n 0, 1) := by decide +kernel
theorem dX9_remembers_69 : decode cX9_remembers 69 = .ok (.dup, 1) := by decide +kernel
theorem dX9_remembers_70 : decode cX9_remembers 70 = .ok (.getfield 148, 3) := by decide +kernel
theorem dX9_remembers_73 : decode cX9_remembers 73 = .ok (.iconst 1, 1) := by decide +kernel
theorem dX9_remembers_74 : decode cX9_remembers 74 = .ok (.iadd, 1) := by decide +kernel
theorem dX9_remembers_75 : decode cX9_remembers 75 = .ok (.putfield 148, 3) := by decide +kernel
theorem dX9_remembers_78 : decode cX9_remembers 78 = .ok (.return_, 1) := by decide +kernel
theorem dX9_tuesday_0 : decode cX9_tuesday 0 = .ok (.aload_n 0, 1) := by decide +kernel
theorem dX9_tuesday_1 : decode cX9_tuesday 1 = .ok (.invokevirtual 184, 3) := by decide +kernel
theorem dX9_tuesday_4 : decode cX9_tuesday 4 = .ok (.ifCond .eq 16, 3) := by decide +kernel
theorem dX9_tuesday_7 : decode cX9_tuesday 7 = .ok (.aload_n 0, 1) := by decide +kernel
theorem dX9_tuesday_8 : decode cX9_tuesday 8 = .ok (.getfield 19, 3) := by decide +kernel
theorem dX9_tuesday_11 : decode cX9_tuesday 11 = .ok (.bipush 11, 2) := by decide +kernel
theorem dX9_tuesday_13 : decode cX9_tuesday 13 = .ok (.iaload, 1) := by decide +kernel
theorem dX9_tuesday_14 : decode cX9_tuesday 14 = .ok (.sipush 999, 3) := by decide +kernel
theorem dX9_tuesday_17 : decode cX9_tuesday 17 = .ok (.if_icmp .ne 6, 3) := by decide +kernel
theorem dX9_tuesday_20 : decode cX9_tuesday 20 = .ok (.bipush (-2), 2) := by decide +kernel
theorem dX9_tuesday_22 : decode cX9_tuesday 22 = .ok (.ireturn, 1) := by decide +kernel
theorem dX9_tuesday_23 : decode cX9_tuesday 23 = .ok (.aload_n 0, 1) := by decide +kernel
theorem dX9_tuesday_24 : decode cX9_tuesday 24 = .ok (.invokevirtual 210, 3) := by decide +kernel
theorem dX9_tuesday_27 : decode cX9_tuesday 27 = .ok (.aload_n 0, 1) := by decide +kernel
theorem dX9_tuesday_28 : decode cX9_tuesday 28 = .ok (.invokevirtual 196, 3) := by decide +kernel
theorem dX9_tuesday_31 : decode cX9_tuesday 31 = .ok (.istore_n 1, 1) := by decide +kernel
theorem dX9_tuesday_32 : decode cX9_tuesday 32 = .ok (.aload_n 0, 1) := by decide +kernel
theorem dX9_tuesday_33 : decode cX9_tuesday 33 = .ok (.getfield 19, 3) := by decide +kernel
theorem dX9_tuesday_36 : decode cX9_tuesday 36 = .ok (.bipush 11, 2) := by decide +kernel
theorem dX9_tuesday_38 : decode cX9_tuesday 38 = .ok (.dup2, 1) := by decide +kernel
theorem dX9_tuesday_39 : decode cX9_tuesday 39 = .ok (.iaload, 1) := by decide +kernel
theorem dX9_tuesday_40 : decode cX9_tuesday 40 = .ok (.iconst 1, 1) := by decide +kernel
theorem dX9_tuesday_41 : decode cX9_tuesday 41 = .ok (.iadd, 1) := by decide +kernel
theorem dX9_tuesday_42 : decode cX9_tuesday 42 = .ok (.iastore, 1) := by decide +kernel
theorem dX9_tuesday_43 : decode cX9_tuesday 43 = .ok (.aload_n 0, 1) := by decide +kernel
theorem dX9_tuesday_44 : decode cX9_tuesday 44 = .ok (.getfield 19, 3) := by decide +kernel
theorem dX9_tuesday_47 : decode cX9_tuesday 47 = .ok (.bipush 12, 2) := by decide +kernel
theorem dX9_tuesday_49 : decode cX9_tuesday 49 = .ok (.iload_n 1, 1) := by decide +kernel
theorem dX9_tuesday_50 : decode cX9_tuesday 50 = .ok (.iadd, 1) := by decide +kernel
theorem dX9_tuesday_51 : decode cX9_tuesday 51 = .ok (.dup2, 1) := by decide +kernel
theorem dX9_tuesday_52 : decode cX9_tuesday 52 = .ok (.iaload, 1) := by decide +kernel
theorem dX9_tuesday_53 : decode cX9_tuesday 53 = .ok (.iconst 1, 1) := by decide +kernel
theorem dX9_tuesday_54 : decode cX9_tuesday 54 = .ok (.iadd, 1) := by decide +kernel
theorem dX9_tuesday_55 : decode cX9_tuesday 55 = .ok (.iastore, 1) := by decide +kernel
theorem dX9_tuesday_56 : decode cX9_tuesday 56 = .ok (.iload_n 1, 1) := by decide +kernel
theorem dX9_tuesday_57 : decode cX9_tuesday 57 = .ok (.ireturn, 1) := by decide +kernel
theorem dX9_changes_0 : decode cX9_changes 0 = .ok (.aload_n 0, 1) := by decide +kernel
theorem dX9_changes_1 : decode cX9_changes 1 = .ok (.iload_n 1, 1) := by decide +kernel
theorem dX9_changes_2 : decode cX9_changes 2 = .ok (.invokevirtual 175, 3) := by decide +kernel
theorem dX9_changes_5 : decode cX9_changes 5 = .ok (.ifCond .eq 16, 3) := by decide +kernel
theorem dX9_changes_8 : decode cX9_changes 8 = .ok (.aload_n 0, 1) := by decide +kernel
theorem dX9_changes_9 : decode cX9_changes 9 = .ok (.iload_n 2, 1) := by decide +kernel
theorem dX9_changes_10 : decode cX9_changes 10 = .ok (.invokevirtual 175, 3) := by decide +kernel
theorem dX9_changes_13 : decode cX9_changes 13 = .ok (.ifCond .eq 8, 3) := by decide +kernel
theorem dX9_changes_16 : decode cX9_changes 16 = .ok (.iload_n 1, 1) := by decide +kernel
theorem dX9_changes_17 : decode cX9_changes 17 = .ok (.iload_n 2, 1) := by decide +kernel
theorem dX9_changes_18 : decode cX9_changes 18 = .ok (.if_icmp .ne 5, 3) := by decide +kernel
theorem dX9_changes_21 : decode cX9_changes 21 = .ok (.iconst (-1), 1) := by decide +kernel
theorem dX9_changes_22 : decode cX9_changes 22 = .ok (.ireturn, 1) := by decide +kernel
theorem dX9_changes_23 : decode cX9_changes 23 = .ok (.aload_n 0, 1) := by decide +kernel
theorem dX9_changes_24 : decode cX9_changes 24 = .ok (.invokevirtual 210, 3) := by decide +kernel
theorem dX9_changes_27 : decode cX9_changes 27 = .ok (.aload_n 0, 1) := by decide +kernel
theorem dX9_changes_28 : decode cX9_changes 28 = .ok (.getfield 19, 3) := by decide +kernel
theorem dX9_changes_31 : decode cX9_changes 31 = .ok (.iconst 0, 1) := by decide +kernel
theorem dX9_changes_32 : decode cX9_changes 32 = .ok (.iload_n 1, 1) := by decide +kernel
theorem dX9_changes_33 : decode cX9_changes 33 = .ok (.iadd, 1) := by decide +kernel
theorem dX9_changes_34 : decode cX9_changes 34 = .ok (.iaload, 1) := by decide +kernel
theorem dX9_changes_35 : decode cX9_changes 35 = .ok (.istore_n 3, 1) := by decide +kernel
theorem dX9_changes_36 : decode cX9_changes 36 = .ok (.aload_n 0, 1) := by decide +kernel
theorem dX9_changes_37 : decode cX9_changes 37 = .ok (.getfield 19, 3) := by decide +kernel
theorem dX9_changes_40 : decode cX9_changes 40 = .ok (.iconst 0, 1) := by decide +kernel
theorem dX9_changes_41 : decode cX9_changes 41 = .ok (.iload_n 1, 1) := by decide +kernel
theorem dX9_changes_42 : decode cX9_changes 42 = .ok (.iadd, 1) := by decide +kernel
theorem dX9_changes_43 : decode cX9_changes 43 = .ok (.aload_n 0, 1) := by decide +kernel
theorem dX9_changes_44 : decode cX9_changes 44 = .ok (.getfield 19, 3) := by decide +kernel
theorem dX9_changes_47 : decode cX9_changes 47 = .ok (.iconst 0, 1) := by decide +kernel
theorem dX9_changes_48 : decode cX9_changes 48 = .ok (.iload_n 2, 1) := by decide +kernel
theorem dX9_changes_49 : decode cX9_changes 49 = .ok (.iadd, 1) := by decide +kernel
theorem dX9_changes_50 : decode cX9_changes 50 = .ok (.iaload, 1) := by decide +kernel
theorem dX9_changes_51 : decode cX9_changes 51 = .ok (.iastore, 1) := by decide +kernel
theorem dX9_changes_52 : decode cX9_changes 52 = .ok (.aload_n 0, 1) := by decide +kernel
theorem dX9_changes_53 : decode cX9_changes 53 = .ok (.getfield 19, 3) := by decide +kernel
theorem dX9_changes_56 : decode cX9_changes 56 = .ok (.iconst 0, 1) := by decide +kernel
theorem dX9_changes_57 : decode cX9_changes 57 = .ok (.iload_n 2, 1) := by decide +kernel
theorem dX9_changes_58 : decode cX9_changes 58 = .ok (.iadd, 1) := by decide +kernel
theorem dX9_changes_59 : decode cX9_changes 59 = .ok (.iload_n 3, 1) := by decide +kernel
theorem dX9_changes_60 : decode cX9_changes 60 = .ok (.iastore, 1) := by decide +kernel
theorem dX9_changes_61 : decode cX9_changes 61 = .ok (.aload_n 0, 1) := by decide +kernel
theorem dX9_changes_62 : decode cX9_changes 62 = .ok (.getfield 19, 3) := by decide +kernel
theorem dX9_changes_65 : decode cX9_changes 65 = .ok (.iconst 0, 1) := by decide +kernel
theorem dX9_changes_66 : decode cX9_changes 66 = .ok (.iload_n 1, 1) := by decide +kernel
theorem dX9_changes_67 : decode cX9_changes 67 = .ok (.iadd, 1) := by decide +kernel
theorem dX9_changes_68 : decode cX9_changes 68 = .ok (.iaload, 1) := by decide +kernel
theorem dX9_changes_69 : decode cX9_changes 69 = .ok (.ireturn, 1) := by decide +kernel
theorem dX9_sets_0 : decode cX9_sets 0 = .ok (.aload_n 0, 1) := by decide +kernel
theorem dX9_sets_1 : decode cX9_sets 1 = .ok (.iload_n 1, 1) := by decide +kernel
theorem dX9_sets_2 : decode cX9_sets 2 = .ok (.invokevirtual 175, 3) := by decide +kernel
theorem dX9_sets_5 : decode cX9_sets 5 = .ok (.ifCond .eq 12, 3) := by decide +kernel
theorem dX9_sets_8 : decode cX9_sets 8 = .ok (.iload_n 2, 1) := by decide +kernel
theorem dX9_sets_9 : decode cX9_sets 9 = .ok (.iconst 0, 1) := by decide +kernel
theorem dX9_sets_10 : decode cX9_sets 10 = .ok (.iconst 5, 1) := by decide +kernel
theorem dX9_sets_11 : decode cX9_sets 11 = .ok (.invokestatic 78, 3) := by decide +kernel
theorem dX9_sets_14 : decode cX9_sets 14 = .ok (.ifCond .ne 5, 3) := by decide +kernel
theorem dX9_sets_17 : decode cX9_sets 17 = .ok (.iconst (-1), 1) := by decide +kernel
theorem dX9_sets_18 : decode cX9_sets 18 = .ok (.ireturn, 1) := by decide +kernel
theorem dX9_sets_19 : decode cX9_sets 19 = .ok (.aload_n 0, 1) := by decide +kernel
theorem dX9_sets_20 : decode cX9_sets 20 = .ok (.getfield 19, 3) := by decide +kernel
theorem dX9_sets_23 : decode cX9_sets 23 = .ok (.iconst 5, 1) := by decide +kernel
theorem dX9_sets_24 : decode cX9_sets 24 = .ok (.iload_n 1, 1) := by decide +kernel
theorem dX9_sets_25 : decode cX9_sets 25 = .ok (.iadd, 1) := by decide +kernel
theorem dX9_sets_26 : decode cX9_sets 26 = .ok (.iaload, 1) := by decide +kernel
theorem dX9_sets_27 : decode cX9_sets 27 = .ok (.istore_n 3, 1) := by decide +kernel
theorem dX9_sets_28 : decode cX9_sets 28 = .ok (.iload_n 3, 1) := by decide +kernel
theorem dX9_sets_29 : decode cX9_sets 29 = .ok (.iload_n 2, 1) := by decide +kernel
theorem dX9_sets_30 : decode cX9_sets 30 = .ok (.if_icmp .ne 6, 3) := by decide +kernel
theorem dX9_sets_33 : decode cX9_sets 33 = .ok (.bipush (-2), 2) := by decide +kernel
theorem dX9_sets_35 : decode cX9_sets 35 = .ok (.ireturn, 1) := by decide +kernel
theorem dX9_sets_36 : decode cX9_sets 36 = .ok (.aload_n 0, 1) := by decide +kernel
theorem dX9_sets_37 : decode cX9_sets 37 = .ok (.invokevirtual 210, 3) := by decide +kernel
theorem dX9_sets_40 : decode cX9_sets 40 = .ok (.aload_n 0, 1) := by decide +kernel
theorem dX9_sets_41 : decode cX9_sets 41 = .ok (.getfield 19, 3) := by decide +kernel
theorem dX9_sets_44 : decode cX9_sets 44 = .ok (.iconst 5, 1) := by decide +kernel
theorem dX9_sets_45 : decode cX9_sets 45 = .ok (.iload_n 1, 1) := by decide +kernel
theorem dX9_sets_46 : decode cX9_sets 46 = .ok (.iadd, 1) := by decide +kernel
theorem dX9_sets_47 : decode cX9_sets 47 = .ok (.iload_n 2, 1) := by decide +kernel
theorem dX9_sets_48 : decode cX9_sets 48 = .ok (.iastore, 1) := by decide +kernel
theorem dX9_sets_49 : decode cX9_sets 49 = .ok (.iload_n 3, 1) := by decide +kernel
theorem dX9_sets_50 : decode cX9_sets 50 = .ok (.ireturn, 1) := by decide +kernel
theorem dX9_greases_0 : decode cX9_greases 0 = .ok (.aload_n 0, 1) := by decide +kernel
theorem dX9_greases_1 : decode cX9_greases 1 = .ok (.iload_n 1, 1) := by decide +kernel
theorem dX9_greases_2 : decode cX9_greases 2 = .ok (.invokevirtual 175, 3) := by decide +kernel
theorem dX9_greases_5 : decode cX9_greases 5 = .ok (.ifCond .eq 12, 3) := by decide +kernel
theorem dX9_greases_8 : decode cX9_greases 8 = .ok (.iload_n 2, 1) := by decide +kernel
theorem dX9_greases_9 : decode cX9_greases 9 = .ok (.iconst 0, 1) := by decide +kernel
theorem dX9_greases_10 : decode cX9_greases 10 = .ok (.iconst 1, 1) := by decide +kernel
theorem dX9_greases_11 : decode cX9_greases 11 = .ok (.invokestatic 78, 3) := by decide +kernel
theorem dX9_greases_14 : decode cX9_greases 14 = .ok (.ifCond .ne 5, 3) := by decide +kernel
theorem dX9_greases_17 : decode cX9_greases 17 = .ok (.iconst (-1), 1) := by decide +kernel
theorem dX9_greases_18 : decode cX9_greases 18 = .ok (.ireturn, 1) := by decide +kernel
theorem dX9_greases_19 : decode cX9_greases 19 = .ok (.aload_n 0, 1) := by decide +kernel
theorem dX9_greases_20 : decode cX9_greases 20 = .ok (.getfield 19, 3) := by decide +kernel
theorem dX9_greases_23 : decode cX9_greases 23 = .ok (.bipush 10, 2) := by decide +kernel
theorem dX9_greases_25 : decode cX9_greases 25 = .ok (.iaload, 1) := by decide +kernel
theorem dX9_greases_26 : decode cX9_greases 26 = .ok (.iload_n 1, 1) := by decide +kernel
theorem dX9_greases_27 : decode cX9_greases 27 = .ok (.invokestatic 158, 3) := by decide +kernel
theorem dX9_greases_30 : decode cX9_greases 30 = .ok (.iload_n 2, 1) := by decide +kernel
theorem dX9_greases_31 : decode cX9_greases 31 = .ok (.iconst 1, 1) := by decide +kernel
theorem dX9_greases_32 : decode cX9_greases 32 = .ok (.if_icmp .ne 7, 3) := by decide +kernel
theorem dX9_greases_35 : decode cX9_greases 35 = .ok (.iconst 1, 1) := by decide +kernel
theorem dX9_greases_36 : decode cX9_greases 36 = .ok (.goto 4, 3) := by decide +kernel
theorem dX9_greases_39 : decode cX9_greases 39 = .ok (.iconst 0, 1) := by decide +kernel
theorem dX9_greases_40 : decode cX9_greases 40 = .ok (.if_icmp .ne 6, 3) := by decide +kernel
theorem dX9_greases_43 : decode cX9_greases 43 = .ok (.bipush (-2), 2) := by decide +kernel
theorem dX9_greases_45 : decode cX9_greases 45 = .ok (.ireturn, 1) := by decide +kernel
theorem dX9_greases_46 : decode cX9_greases 46 = .ok (.aload_n 0, 1) := by decide +kernel
theorem dX9_greases_47 : decode cX9_greases 47 = .ok (.invokevirtual 210, 3) := by decide +kernel
theorem dX9_greases_50 : decode cX9_greases 50 = .ok (.aload_n 0, 1) := by decide +kernel
theorem dX9_greases_51 : decode cX9_greases 51 = .ok (.getfield 19, 3) := by decide +kernel
theorem dX9_greases_54 : decode cX9_greases 54 = .ok (.bipush 10, 2) := by decide +kernel
theorem dX9_greases_56 : decode cX9_greases 56 = .ok (.dup2, 1) := by decide +kernel
theorem dX9_greases_57 : decode cX9_greases 57 = .ok (.iaload, 1) := by decide +kernel
theorem dX9_greases_58 : decode cX9_greases 58 = .ok (.iconst 1, 1) := by decide +kernel
theorem dX9_greases_59 : decode cX9_greases 59 = .ok (.iload_n 1, 1) := by decide +kernel
theorem dX9_greases_60 : decode cX9_greases 60 = .ok (.ishl, 1) := by decide +kernel
theorem dX9_greases_61 : decode cX9_greases 61 = .ok (.ixor, 1) := by decide +kernel
theorem dX9_greases_62 : decode cX9_greases 62 = .ok (.iastore, 1) := by decide +kernel
theorem dX9_greases_63 : decode cX9_greases 63 = .ok (.iconst 0, 1) := by decide +kernel
theorem dX9_greases_64 : decode cX9_greases 64 = .ok (.istore_n 3, 1) := by decide +kernel
theorem dX9_greases_65 : decode cX9_greases 65 = .ok (.iconst 0, 1) := by decide +kernel
theorem dX9_greases_66 : decode cX9_greases 66 = .ok (.istore 4, 2) := by decide +kernel
theorem dX9_greases_68 : decode cX9_greases 68 = .ok (.iload 4, 2) := by decide +kernel
theorem dX9_greases_70 : decode cX9_greases 70 = .ok (.aload_n 0, 1) := by decide +kernel
theorem dX9_greases_71 : decode cX9_greases 71 = .ok (.getfield 74, 3) := by decide +kernel
theorem dX9_greases_74 : decode cX9_greases 74 = .ok (.if_icmp .ge 24, 3) := by decide +kernel
theorem dX9_greases_77 : decode cX9_greases 77 = .ok (.iload_n 3, 1) := by decide +kernel
theorem dX9_greases_78 : decode cX9_greases 78 = .ok (.aload_n 0, 1) := by decide +kernel
theorem dX9_greases_79 : decode cX9_greases 79 = .ok (.getfield 19, 3) := by decide +kernel
theorem dX9_greases_82 : decode cX9_greases 82 = .ok (.bipush 10, 2) := by decide +kernel
theorem dX9_greases_84 : decode cX9_greases 84 = .ok (.iaload, 1) := by decide +kernel
theorem dX9_greases_85 : decode cX9_greases 85 = .ok (.iload 4, 2) := by decide +kernel
theorem dX9_greases_87 : decode cX9_greases 87 = .ok (.ishr, 1) := by decide +kernel
theorem dX9_greases_88 : decode cX9_greases 88 = .ok (.iconst 1, 1) := by decide +kernel
theorem dX9_greases_89 : decode cX9_greases 89 = .ok (.iand, 1) := by decide +kernel
theorem dX9_greases_90 : decode cX9_greases 90 = .ok (.iadd, 1) := by decide +kernel
theorem dX9_greases_91 : decode cX9_greases 91 = .ok (.istore_n 3, 1) := by decide +kernel
theorem dX9_greases_92 : decode cX9_greases 92 = .ok (.iinc 4 1, 3) := by decide +kernel
theorem dX9_greases_95 : decode cX9_greases 95 = .ok (.goto (-27), 3) := by decide +kernel
theorem dX9_greases_98 : decode cX9_greases 98 = .ok (.iload_n 3, 1) := by decide +kernel
theorem dX9_greases_99 : decode cX9_greases 99 = .ok (.ireturn, 1) := by decide +kernel
theorem dX9_undo_0 : decode cX9_undo 0 = .ok (.aload_n 0, 1) := by decide +kernel
theorem dX9_undo_1 : decode cX9_undo 1 = .ok (.getfield 148, 3) := by decide +kernel
theorem dX9_undo_4 : decode cX9_undo 4 = .ok (.ifCond .ne 6, 3) := by decide +kernel
theorem dX9_undo_7 : decode cX9_undo 7 = .ok (.bipush (-2), 2) := by decide +kernel
theorem dX9_undo_9 : decode cX9_undo 9 = .ok (.ireturn, 1) := by decide +kernel
theorem dX9_undo_10 : decode cX9_undo 10 = .ok (.aload_n 0, 1) := by decide +kernel
theorem dX9_undo_11 : decode cX9_undo 11 = .ok (.dup, 1) := by decide +kernel
theorem dX9_undo_12 : decode cX9_undo 12 = .ok (.getfield 148, 3) := by decide +kernel
theorem dX9_undo_15 : decode cX9_undo 15 = .ok (.iconst 1, 1) := by decide +kernel
theorem dX9_undo_16 : decode cX9_undo 16 = .ok (.isub, 1) := by decide +kernel
theorem dX9_undo_17 : decode cX9_undo 17 = .ok (.putfield 148, 3) := by decide +kernel
theorem dX9_undo_20 : decode cX9_undo 20 = .ok (.aload_n 0, 1) := by decide +kernel
theorem dX9_undo_21 : decode cX9_undo 21 = .ok (.getfield 19, 3) := by decide +kernel
theorem dX9_undo_24 : decode cX9_undo 24 = .ok (.iconst 0, 1) := by decide +kernel
theorem dX9_undo_25 : decode cX9_undo 25 = .ok (.aload_n 0, 1) := by decide +kernel
theorem dX9_undo_26 : decode cX9_undo 26 = .ok (.getfield 22, 3) := by decide +kernel
theorem dX9_undo_29 : decode cX9_undo 29 = .ok (.bipush 17, 2) := by decide +kernel
theorem dX9_undo_31 : decode cX9_undo 31 = .ok (.aload_n 0, 1) := by decide +kernel
theorem dX9_undo_32 : decode cX9_undo 32 = .ok (.getfield 148, 3) := by decide +kernel
theorem dX9_undo_35 : decode cX9_undo 35 = .ok (.imul, 1) := by decide +kernel
theorem dX9_undo_36 : decode cX9_undo 36 = .ok (.invokestatic 154, 3) := by decide +kernel
theorem dX9_undo_39 : decode cX9_undo 39 = .ok (.aload_n 0, 1) := by decide +kernel
theorem dX9_undo_40 : decode cX9_undo 40 = .ok (.getfield 148, 3) := by decide +kernel
theorem dX9_undo_43 : decode cX9_undo 43 = .ok (.ireturn, 1) := by decide +kernel
theorem dX9_time_0 : decode cX9_time 0 = .ok (.aload_n 0, 1) := by decide +kernel
theorem dX9_time_1 : decode cX9_time 1 = .ok (.iload_n 1, 1) := by decide +kernel
theorem dX9_time_2 : decode cX9_time 2 = .ok (.invokevirtual 175, 3) := by decide +kernel
theorem dX9_time_5 : decode cX9_time 5 = .ok (.ifCond .ne 5, 3) := by decide +kernel
theorem dX9_time_8 : decode cX9_time 8 = .ok (.iconst (-1), 1) := by decide +kernel
theorem dX9_time_9 : decode cX9_time 9 = .ok (.ireturn, 1) := by decide +kernel
theorem dX9_time_10 : decode cX9_time 10 = .ok (.aload_n 0, 1) := by decide +kernel
theorem dX9_time_11 : decode cX9_time 11 = .ok (.invokevirtual 184, 3) := by decide +kernel
theorem dX9_time_14 : decode cX9_time 14 = .ok (.ifCond .ne 6, 3) := by decide +kernel
theorem dX9_time_17 : decode cX9_time 17 = .ok (.bipush (-2), 2) := by decide +kernel
theorem dX9_time_19 : decode cX9_time 19 = .ok (.ireturn, 1) := by decide +kernel
theorem dX9_time_20 : decode cX9_time 20 = .ok (.aload_n 0, 1) := by decide +kernel
theorem dX9_time_21 : decode cX9_time 21 = .ok (.invokevirtual 178, 3) := by decide +kernel
theorem dX9_time_24 : decode cX9_time 24 = .ok (.aload_n 0, 1) := by decide +kernel
theorem dX9_time_25 : decode cX9_time 25 = .ok (.iconst 0, 1) := by decide +kernel
theorem dX9_time_26 : decode cX9_time 26 = .ok (.invokevirtual 192, 3) := by decide +kernel
theorem dX9_time_29 : decode cX9_time 29 = .ok (.aload_n 0, 1) := by decide +kernel
theorem dX9_time_30 : decode cX9_time 30 = .ok (.getfield 56, 3) := by decide +kernel
theorem dX9_time_33 : decode cX9_time 33 = .ok (.iload_n 1, 1) := by decide +kernel
theorem dX9_time_34 : decode cX9_time 34 = .ok (.iaload, 1) := by decide +kernel
theorem dX9_time_35 : decode cX9_time 35 = .ok (.ireturn, 1) := by decide +kernel
theorem dX9_place_0 : decode cX9_place 0 = .ok (.aload_n 0, 1) := by decide +kernel
theorem dX9_place_1 : decode cX9_place 1 = .ok (.iload_n 1, 1) := by decide +kernel
theorem dX9_place_2 : decode cX9_place 2 = .ok (.invokevirtual 175, 3) := by decide +kernel
theorem dX9_place_5 : decode cX9_place 5 = .ok (.ifCond .ne 5, 3) := by decide +kernel
theorem dX9_place_8 : decode cX9_place 8 = .ok (.iconst (-1), 1) := by decide +kernel
theorem dX9_place_9 : decode cX9_place 9 = .ok (.ireturn, 1) := by decide +kernel
theorem dX9_place_10 : decode cX9_place 10 = .ok (.aload_n 0, 1) := by decide +kernel
theorem dX9_place_11 : decode cX9_place 11 = .ok (.invokevirtual 184, 3) := by decide +kernel
theorem dX9_place_14 : decode cX9_place 14 = .ok (.ifCond .ne 6, 3) := by decide +kernel
theorem dX9_place_17 : decode cX9_place 17 = .ok (.bipush (-2), 2) := by decide +kernel
theorem dX9_place_19 : decode cX9_place 19 = .ok (.ireturn, 1) := by decide +kernel
theorem dX9_place_20 : decode cX9_place 20 = .ok (.aload_n 0, 1) := by decide +kernel
theorem dX9_place_21 : decode cX9_place 21 = .ok (.invokevirtual 178, 3) := by decide +kernel
theorem dX9_place_24 : decode cX9_place 24 = .ok (.aload_n 0, 1) := by decide +kernel
theorem dX9_place_25 : decode cX9_place 25 = .ok (.iconst 0, 1) := by decide +kernel
theorem dX9_place_26 : decode cX9_place 26 = .ok (.invokevirtual 192, 3) := by decide +kernel
theorem dX9_place_29 : decode cX9_place 29 = .ok (.aload_n 0, 1) := by decide +kernel
theorem dX9_place_30 : decode cX9_place 30 = .ok (.getfield 59, 3) := by decide +kernel
theorem dX9_place_33 : decode cX9_place 33 = .ok (.iload_n 1, 1) := by decide +kernel
theorem dX9_place_34 : decode cX9_place 34 = .ok (.iaload, 1) := by decide +kernel
theorem dX9_place_35 : decode cX9_place 35 = .ok (.ireturn, 1) := by decide +kernel
theorem dX9_alone_0 : decode cX9_alone 0 = .ok (.aload_n 0, 1) := by decide +kernel
theorem dX9_alone_1 : decode cX9_alone 1 = .ok (.iload_n 1, 1) := by decide +kernel
theorem dX9_alone_2 : decode cX9_alone 2 = .ok (.invokevirtual 175, 3) := by decide +kernel
theorem dX9_alone_5 : decode cX9_alone 5 = .ok (.ifCond .ne 5, 3) := by decide +kernel
theorem dX9_alone_8 : decode cX9_alone 8 = .ok (.iconst (-1), 1) := by decide +kernel
theorem dX9_alone_9 : decode cX9_alone 9 = .ok (.ireturn, 1) := by decide +kernel
theorem dX9_alone_10 : decode cX9_alone 10 = .ok (.aload_n 0, 1) := by decide +kernel
theorem dX9_alone_11 : decode cX9_alone 11 = .ok (.invokevirtual 184, 3) := by decide +kernel
theorem dX9_alone_14 : decode cX9_alone 14 = .ok (.ifCond .ne 6, 3) := by decide +kernel
theorem dX9_alone_17 : decode cX9_alone 17 = .ok (.bipush (-2), 2) := by decide +kernel
theorem dX9_alone_19 : decode cX9_alone 19 = .ok (.ireturn, 1) := by decide +kernel
theorem dX9_alone_20 : decode cX9_alone 20 = .ok (.aload_n 0, 1) := by decide +kernel
theorem dX9_alone_21 : decode cX9_alone 21 = .ok (.invokevirtual 178, 3) := by decide +kernel
theorem dX9_alone_24 : decode cX9_alone 24 = .ok (.aload_n 0, 1) := by decide +kernel
theorem dX9_alone_25 : decode cX9_alone 25 = .ok (.iload_n 1, 1) := by decide +kernel
theorem dX9_alone_26 : decode cX9_alone 26 = .ok (.invokevirtual 181, 3) := by decide +kernel
theorem dX9_alone_29 : decode cX9_alone 29 = .ok (.ireturn, 1) := by decide +kernel
theorem dX9_isWay_0 : decode cX9_isWay 0 = .ok (.iconst 0, 1) := by decide +kernel
theorem dX9_isWay_1 : decode cX9_isWay 1 = .ok (.istore_n 2, 1) := by decide +kernel
theorem dX9_isWay_2 : decode cX9_isWay 2 = .ok (.iload_n 0, 1) := by decide +kernel
theorem dX9_isWay_3 : decode cX9_isWay 3 = .ok (.istore_n 3, 1) := by decide +kernel
theorem dX9_isWay_4 : decode cX9_isWay 4 = .ok (.iconst 0, 1) := by decide +kernel
theorem dX9_isWay_5 : decode cX9_isWay 5 = .ok (.istore 4, 2) := by decide +kernel
theorem dX9_isWay_7 : decode cX9_isWay 7 = .ok (.iload 4, 2) := by decide +kernel
theorem dX9_isWay_9 : decode cX9_isWay 9 = .ok (.iload_n 1, 1) := by decide +kernel
theorem dX9_isWay_10 : decode cX9_isWay 10 = .ok (.if_icmp .ge 21, 3) := by decide +kernel
theorem dX9_isWay_13 : decode cX9_isWay 13 = .ok (.iload_n 2, 1) := by decide +kernel
theorem dX9_isWay_14 : decode cX9_isWay 14 = .ok (.iconst 1, 1) := by decide +kernel
theorem dX9_isWay_15 : decode cX9_isWay 15 = .ok (.iload_n 3, 1) := by decide +kernel
theorem dX9_isWay_16 : decode cX9_isWay 16 = .ok (.iload_n 1, 1) := by decide +kernel
theorem dX9_isWay_17 : decode cX9_isWay 17 = .ok (.irem, 1) := by decide +kernel
theorem dX9_isWay_18 : decode cX9_isWay 18 = .ok (.ishl, 1) := by decide +kernel
theorem dX9_isWay_19 : decode cX9_isWay 19 = .ok (.ior, 1) := by decide +kernel
theorem dX9_isWay_20 : decode cX9_isWay 20 = .ok (.istore_n 2, 1) := by decide +kernel
theorem dX9_isWay_21 : decode cX9_isWay 21 = .ok (.iload_n 3, 1) := by decide +kernel
theorem dX9_isWay_22 : decode cX9_isWay 22 = .ok (.iload_n 1, 1) := by decide +kernel
theorem dX9_isWay_23 : decode cX9_isWay 23 = .ok (.idiv, 1) := by decide +kernel
theorem dX9_isWay_24 : decode cX9_isWay 24 = .ok (.istore_n 3, 1) := by decide +kernel
theorem dX9_isWay_25 : decode cX9_isWay 25 = .ok (.iinc 4 1, 3) := by decide +kernel
theorem dX9_isWay_28 : decode cX9_isWay 28 = .ok (.goto (-21), 3) := by decide +kernel
theorem dX9_isWay_31 : decode cX9_isWay 31 = .ok (.iload_n 2, 1) := by decide +kernel
theorem dX9_isWay_32 : decode cX9_isWay 32 = .ok (.iconst 1, 1) := by decide +kernel
theorem dX9_isWay_33 : decode cX9_isWay 33 = .ok (.iload_n 1, 1) := by decide +kernel
theorem dX9_isWay_34 : decode cX9_isWay 34 = .ok (.ishl, 1) := by decide +kernel
theorem dX9_isWay_35 : decode cX9_isWay 35 = .ok (.iconst 1, 1) := by decide +kernel
theorem dX9_isWay_36 : decode cX9_isWay 36 = .ok (.isub, 1) := by decide +kernel
theorem dX9_isWay_37 : decode cX9_isWay 37 = .ok (.if_icmp .ne 7, 3) := by decide +kernel
theorem dX9_isWay_40 : decode cX9_isWay 40 = .ok (.iconst 1, 1) := by decide +kernel
theorem dX9_isWay_41 : decode cX9_isWay 41 = .ok (.goto 4, 3) := by decide +kernel
theorem dX9_isWay_44 : decode cX9_isWay 44 = .ok (.iconst 0, 1) := by decide +kernel
theorem dX9_isWay_45 : decode cX9_isWay 45 = .ok (.ireturn, 1) := by decide +kernel
theorem dX9_findKings_0 : decode cX9_findKings 0 = .ok (.iconst 1, 1) := by decide +kernel
theorem dX9_findKings_1 : decode cX9_findKings 1 = .ok (.istore_n 1, 1) := by decide +kernel
theorem dX9_findKings_2 : decode cX9_findKings 2 = .ok (.iconst 0, 1) := by decide +kernel
theorem dX9_findKings_3 : decode cX9_findKings 3 = .ok (.istore_n 2, 1) := by decide +kernel
theorem dX9_findKings_4 : decode cX9_findKings 4 = .ok (.iload_n 2, 1) := by decide +kernel
theorem dX9_findKings_5 : decode cX9_findKings 5 = .ok (.aload_n 0, 1) := by decide +kernel
theorem dX9_findKings_6 : decode cX9_findKings 6 = .ok (.getfield 74, 3) := by decide +kernel
theorem dX9_findKings_9 : decode cX9_findKings 9 = .ok (.if_icmp .ge 24, 3) := by decide +kernel
theorem dX9_findKings_12 : decode cX9_findKings 12 = .ok (.iload_n 1, 1) := by decide +kernel
theorem dX9_findKings_13 : decode cX9_findKings 13 = .ok (.aload_n 0, 1) := by decide +kernel
theorem dX9_findKings_14 : decode cX9_findKings 14 = .ok (.getfield 74, 3) := by decide +kernel
theorem dX9_findKings_17 : decode cX9_findKings 17 = .ok (.imul, 1) := by decide +kernel
theorem dX9_findKings_18 : decode cX9_findKings 18 = .ok (.istore_n 1, 1) := by decide +kernel
theorem dX9_findKings_19 : decode cX9_findKings 19 = .ok (.aload_n 0, 1) := by decide +kernel
theorem dX9_findKings_20 : decode cX9_findKings 20 = .ok (.getfield 65, 3) := by decide +kernel
theorem dX9_findKings_23 : decode cX9_findKings 23 = .ok (.iload_n 2, 1) := by decide +kernel
theorem dX9_findKings_24 : decode cX9_findKings 24 = .ok (.bipush (-9), 2) := by decide +kernel
theorem dX9_findKings_26 : decode cX9_findKings 26 = .ok (.iastore, 1) := by decide +kernel
theorem dX9_findKings_27 : decode cX9_findKings 27 = .ok (.iinc 2 1, 3) := by decide +kernel
theorem dX9_findKings_30 : decode cX9_findKings 30 = .ok (.goto (-26), 3) := by decide +kernel
theorem dX9_findKings_33 : decode cX9_findKings 33 = .ok (.aload_n 0, 1) := by decide +kernel
theorem dX9_findKings_34 : decode cX9_findKings 34 = .ok (.invokevirtual 178, 3) := by decide +kernel
theorem dX9_findKings_37 : decode cX9_findKings 37 = .ok (.iconst 0, 1) := by decide +kernel
theorem dX9_findKings_38 : decode cX9_findKings 38 = .ok (.istore_n 2, 1) := by decide +kernel
theorem dX9_findKings_39 : decode cX9_findKings 39 = .ok (.iload_n 2, 1) := by decide +kernel
theorem dX9_findKings_40 : decode cX9_findKings 40 = .ok (.iload_n 1, 1) := by decide +kernel
theorem dX9_findKings_41 : decode cX9_findKings 41 = .ok (.if_icmp .ge 180, 3) := by decide +kernel
theorem dX9_findKings_44 : decode cX9_findKings 44 = .ok (.iload_n 2, 1) := by decide +kernel
theorem dX9_findKings_45 : decode cX9_findKings 45 = .ok (.aload_n 0, 1) := by decide +kernel
theorem dX9_findKings_46 : decode cX9_findKings 46 = .ok (.getfield 74, 3) := by decide +kernel
theorem dX9_findKings_49 : decode cX9_findKings 49 = .ok (.invokestatic 213, 3) := by decide +kernel
theorem dX9_findKings_52 : decode cX9_findKings 52 = .ok (.ifCond .eq 163, 3) := by decide +kernel
theorem dX9_findKings_55 : decode cX9_findKings 55 = .ok (.iload_n 2, 1) := by decide +kernel
theorem dX9_findKings_56 : decode cX9_findKings 56 = .ok (.istore_n 3, 1) := by decide +kernel
theorem dX9_findKings_57 : decode cX9_findKings 57 = .ok (.iconst 0, 1) := by decide +kernel
theorem dX9_findKings_58 : decode cX9_findKings 58 = .ok (.istore 4, 2) := by decide +kernel
theorem dX9_findKings_60 : decode cX9_findKings 60 = .ok (.aload_n 0, 1) := by decide +kernel
theorem dX9_findKings_61 : decode cX9_findKings 61 = .ok (.getfield 74, 3) := by decide +kernel
theorem dX9_findKings_64 : decode cX9_findKings 64 = .ok (.iconst 1, 1) := by decide +kernel
theorem dX9_findKings_65 : decode cX9_findKings 65 = .ok (.isub, 1) := by decide +kernel
theorem dX9_findKings_66 : decode cX9_findKings 66 = .ok (.istore 5, 2) := by decide +kernel
theorem dX9_findKings_68 : decode cX9_findKings 68 = .ok (.iload 5, 2) := by decide +kernel
theorem dX9_findKings_70 : decode cX9_findKings 70 = .ok (.ifCond .lt 62, 3) := by decide +kernel
theorem dX9_findKings_73 : decode cX9_findKings 73 = .ok (.aload_n 0, 1) := by decide +kernel
theorem dX9_findKings_74 : decode cX9_findKings 74 = .ok (.getfield 47, 3) := by decide +kernel
theorem dX9_findKings_77 : decode cX9_findKings 77 = .ok (.iconst 0, 1) := by decide +kernel
theorem dX9_findKings_78 : decode cX9_findKings 78 = .ok (.iload 5, 2) := by decide +kernel
theorem dX9_findKings_80 : decode cX9_findKings 80 = .ok (.iadd, 1) := by decide +kernel
theorem dX9_findKings_81 : decode cX9_findKings 81 = .ok (.iload_n 3, 1) := by decide +kernel
theorem dX9_findKings_82 : decode cX9_findKings 82 = .ok (.aload_n 0, 1) := by decide +kernel
theorem dX9_findKings_83 : decode cX9_findKings 83 = .ok (.getfield 74, 3) := by decide +kernel
theorem dX9_findKings_86 : decode cX9_findKings 86 = .ok (.irem, 1) := by decide +kernel
theorem dX9_findKings_87 : decode cX9_findKings 87 = .ok (.iastore, 1) := by decide +kernel
theorem dX9_findKings_88 : decode cX9_findKings 88 = .ok (.iload_n 3, 1) := by decide +kernel
theorem dX9_findKings_89 : decode cX9_findKings 89 = .ok (.aload_n 0, 1) := by decide +kernel
theorem dX9_findKings_90 : decode cX9_findKings 90 = .ok (.getfield 74, 3) := by decide +kernel
theorem dX9_findKings_93 : decode cX9_findKings 93 = .ok (.idiv, 1) := by decide +kernel
theorem dX9_findKings_94 : decode cX9_findKings 94 = .ok (.istore_n 3, 1) := by decide +kernel
theorem dX9_findKings_95 : decode cX9_findKings 95 = .ok (.iload 4, 2) := by decide +kernel
theorem dX9_findKings_97 : decode cX9_findKings 97 = .ok (.aload_n 0, 1) := by decide +kernel
theorem dX9_findKings_98 : decode cX9_findKings 98 = .ok (.getfield 47, 3) := by decide +kernel
theorem dX9_findKings_101 : decode cX9_findKings 101 = .ok (.iconst 0, 1) := by decide +kernel
theorem dX9_findKings_102 : decode cX9_findKings 102 = .ok (.iload 5, 2) := by decide +kernel
theorem dX9_findKings_104 : decode cX9_findKings 104 = .ok (.iadd, 1) := by decide +kernel
theorem dX9_findKings_105 : decode cX9_findKings 105 = .ok (.iaload, 1) := by decide +kernel
theorem dX9_findKings_106 : decode cX9_findKings 106 = .ok (.aload_n 0, 1) := by decide +kernel
theorem dX9_findKings_107 : decode cX9_findKings 107 = .ok (.getfield 19, 3) := by decide +kernel
theorem dX9_findKings_110 : decode cX9_findKings 110 = .ok (.iconst 0, 1) := by decide +kernel
theorem dX9_findKings_111 : decode cX9_findKings 111 = .ok (.iload 5, 2) := by decide +kernel
theorem dX9_findKings_113 : decode cX9_findKings 113 = .ok (.iadd, 1) := by decide +kernel
theorem dX9_findKings_114 : decode cX9_findKings 114 = .ok (.iaload, 1) := by decide +kernel
theorem dX9_findKings_115 : decode cX9_findKings 115 = .ok (.if_icmp .ne 7, 3) := by decide +kernel
theorem dX9_findKings_118 : decode cX9_findKings 118 = .ok (.iconst 0, 1) := by decide +kernel
theorem dX9_findKings_119 : decode cX9_findKings 119 = .ok (.goto 4, 3) := by decide +kernel
theorem dX9_findKings_122 : decode cX9_findKings 122 = .ok (.iconst 1, 1) := by decide +kernel
theorem dX9_findKings_123 : decode cX9_findKings 123 = .ok (.iadd, 1) := by decide +kernel
theorem dX9_findKings_124 : decode cX9_findKings 124 = .ok (.istore 4, 2) := by decide +kernel
theorem dX9_findKings_126 : decode cX9_findKings 126 = .ok (.iinc 5 (-1), 3) := by decide +kernel
theorem dX9_findKings_129 : decode cX9_findKings 129 = .ok (.goto (-61), 3) := by decide +kernel
theorem dX9_findKings_132 : decode cX9_findKings 132 = .ok (.aload_n 0, 1) := by decide +kernel
theorem dX9_findKings_133 : decode cX9_findKings 133 = .ok (.iconst 0, 1) := by decide +kernel
theorem dX9_findKings_134 : decode cX9_findKings 134 = .ok (.invokevirtual 192, 3) := by decide +kernel
theorem dX9_findKings_137 : decode cX9_findKings 137 = .ok (.aload_n 0, 1) := by decide +kernel
theorem dX9_findKings_138 : decode cX9_findKings 138 = .ok (.getfield 59, 3) := by decide +kernel
theorem dX9_findKings_141 : decode cX9_findKings 141 = .ok (.iconst 0, 1) := by decide +kernel
theorem dX9_findKings_142 : decode cX9_findKings 142 = .ok (.iaload, 1) := by decide +kernel
theorem dX9_findKings_143 : decode cX9_findKings 143 = .ok (.istore 5, 2) := by decide +kernel
theorem dX9_findKings_145 : decode cX9_findKings 145 = .ok (.aload_n 0, 1) := by decide +kernel
theorem dX9_findKings_146 : decode cX9_findKings 146 = .ok (.getfield 65, 3) := by decide +kernel
theorem dX9_findKings_149 : decode cX9_findKings 149 = .ok (.iload 5, 2) := by decide +kernel
theorem dX9_findKings_151 : decode cX9_findKings 151 = .ok (.iaload, 1) := by decide +kernel
theorem dX9_findKings_152 : decode cX9_findKings 152 = .ok (.ifCond .lt 15, 3) := by decide +kernel
theorem dX9_findKings_155 : decode cX9_findKings 155 = .ok (.iload 4, 2) := by decide +kernel
theorem dX9_findKings_157 : decode cX9_findKings 157 = .ok (.aload_n 0, 1) := by decide +kernel
theorem dX9_findKings_158 : decode cX9_findKings 158 = .ok (.getfield 65, 3) := by decide +kernel
theorem dX9_findKings_161 : decode cX9_findKings 161 = .ok (.iload 5, 2) := by decide +kernel
theorem dX9_findKings_163 : decode cX9_findKings 163 = .ok (.iaload, 1) := by decide +kernel
theorem dX9_findKings_164 : decode cX9_findKings 164 = .ok (.if_icmp .ge 51, 3) := by decide +kernel
theorem dX9_findKings_167 : decode cX9_findKings 167 = .ok (.aload_n 0, 1) := by decide +kernel
theorem dX9_findKings_168 : decode cX9_findKings 168 = .ok (.getfield 65, 3) := by decide +kernel
theorem dX9_findKings_171 : decode cX9_findKings 171 = .ok (.iload 5, 2) := by decide +kernel
theorem dX9_findKings_173 : decode cX9_findKings 173 = .ok (.iload 4, 2) := by decide +kernel
theorem dX9_findKings_175 : decode cX9_findKings 175 = .ok (.iastore, 1) := by decide +kernel
theorem dX9_findKings_176 : decode cX9_findKings 176 = .ok (.iconst 0, 1) := by decide +kernel
theorem dX9_findKings_177 : decode cX9_findKings 177 = .ok (.istore 6, 2) := by decide +kernel
theorem dX9_findKings_179 : decode cX9_findKings 179 = .ok (.iload 6, 2) := by decide +kernel
theorem dX9_findKings_181 : decode cX9_findKings 181 = .ok (.aload_n 0, 1) := by decide +kernel
theorem dX9_findKings_182 : decode cX9_findKings 182 = .ok (.getfield 74, 3) := by decide +kernel
theorem dX9_findKings_185 : decode cX9_findKings 185 = .ok (.if_icmp .ge 30, 3) := by decide +kernel
theorem dX9_findKings_188 : decode cX9_findKings 188 = .ok (.aload_n 0, 1) := by decide +kernel
theorem dX9_findKings_189 : decode cX9_findKings 189 = .ok (.getfield 62, 3) := by decide +kernel
theorem dX9_findKings_192 : decode cX9_findKings 192 = .ok (.iconst 5, 1) := by decide +kernel
theorem dX9_findKings_193 : decode cX9_findKings 193 = .ok (.iload 5, 2) := by decide +kernel
theorem dX9_findKings_195 : decode cX9_findKings 195 = .ok (.imul, 1) := by decide +kernel
theorem dX9_findKings_196 : decode cX9_findKings 196 = .ok (.iload 6, 2) := by decide +kernel
theorem dX9_findKings_198 : decode cX9_findKings 198 = .ok (.iadd, 1) := by decide +kernel
theorem dX9_findKings_199 : decode cX9_findKings 199 = .ok (.aload_n 0, 1) := by decide +kernel
theorem dX9_findKings_200 : decode cX9_findKings 200 = .ok (.getfield 47, 3) := by decide +kernel
theorem dX9_findKings_203 : decode cX9_findKings 203 = .ok (.iconst 0, 1) := by decide +kernel
theorem dX9_findKings_204 : decode cX9_findKings 204 = .ok (.iload 6, 2) := by decide +kernel
theorem dX9_findKings_206 : decode cX9_findKings 206 = .ok (.iadd, 1) := by decide +kernel
theorem dX9_findKings_207 : decode cX9_findKings 207 = .ok (.iaload, 1) := by decide +kernel
theorem dX9_findKings_208 : decode cX9_findKings 208 = .ok (.iastore, 1) := by decide +kernel
theorem dX9_findKings_209 : decode cX9_findKings 209 = .ok (.iinc 6 1, 3) := by decide +kernel
theorem dX9_findKings_212 : decode cX9_findKings 212 = .ok (.goto (-33), 3) := by decide +kernel
theorem dX9_findKings_215 : decode cX9_findKings 215 = .ok (.iinc 2 1, 3) := by decide +kernel
theorem dX9_findKings_218 : decode cX9_findKings 218 = .ok (.goto (-179), 3) := by decide +kernel
theorem dX9_findKings_221 : decode cX9_findKings 221 = .ok (.return_, 1) := by decide +kernel
theorem dX9_kings_0 : decode cX9_kings 0 = .ok (.iconst 0, 1) := by decide +kernel
theorem dX9_kings_1 : decode cX9_kings 1 = .ok (.istore_n 1, 1) := by decide +kernel
theorem dX9_kings_2 : decode cX9_kings 2 = .ok (.aload_n 0, 1) := by decide +kernel
theorem dX9_kings_3 : decode cX9_kings 3 = .ok (.invokevirtual 184, 3) := by decide +kernel
theorem dX9_kings_6 : decode cX9_kings 6 = .ok (.ifCond .eq 42, 3) := by decide +kernel
theorem dX9_kings_9 : decode cX9_kings 9 = .ok (.aload_n 0, 1) := by decide +kernel
theorem dX9_kings_10 : decode cX9_kings 10 = .ok (.invokevirtual 216, 3) := by decide +kernel
theorem dX9_kings_13 : decode cX9_kings 13 = .ok (.iconst 0, 1) := by decide +kernel
theorem dX9_kings_14 : decode cX9_kings 14 = .ok (.istore_n 2, 1) := by decide +kernel
theorem dX9_kings_15 : decode cX9_kings 15 = .ok (.iload_n 2, 1) := by decide +kernel
theorem dX9_kings_16 : decode cX9_kings 16 = .ok (.aload_n 0, 1) := by decide +kernel
theorem dX9_kings_17 : decode cX9_kings 17 = .ok (.getfield 74, 3) := by decide +kernel
theorem dX9_kings_20 : decode cX9_kings 20 = .ok (.if_icmp .ge 28, 3) := by decide +kernel
theorem dX9_kings_23 : decode cX9_kings 23 = .ok (.iload_n 1, 1) := by decide +kernel
theorem dX9_kings_24 : decode cX9_kings 24 = .ok (.aload_n 0, 1) := by decide +kernel
theorem dX9_kings_25 : decode cX9_kings 25 = .ok (.getfield 65, 3) := by decide +kernel
theorem dX9_kings_28 : decode cX9_kings 28 = .ok (.iload_n 2, 1) := by decide +kernel
theorem dX9_kings_29 : decode cX9_kings 29 = .ok (.iaload, 1) := by decide +kernel
theorem dX9_kings_30 : decode cX9_kings 30 = .ok (.ifCond .lt 9, 3) := by decide +kernel
theorem dX9_kings_33 : decode cX9_kings 33 = .ok (.iconst 1, 1) := by decide +kernel
theorem dX9_kings_34 : decode cX9_kings 34 = .ok (.iload_n 2, 1) := by decide +kernel
theorem dX9_kings_35 : decode cX9_kings 35 = .ok (.ishl, 1) := by decide +kernel
theorem dX9_kings_36 : decode cX9_kings 36 = .ok (.goto 4, 3) := by decide +kernel
theorem dX9_kings_39 : decode cX9_kings 39 = .ok (.iconst 0, 1) := by decide +kernel
theorem dX9_kings_40 : decode cX9_kings 40 = .ok (.ior, 1) := by decide +kernel
theorem dX9_kings_41 : decode cX9_kings 41 = .ok (.istore_n 1, 1) := by decide +kernel
theorem dX9_kings_42 : decode cX9_kings 42 = .ok (.iinc 2 1, 3) := by decide +kernel
theorem dX9_kings_45 : decode cX9_kings 45 = .ok (.goto (-30), 3) := by decide +kernel
theorem dX9_kings_48 : decode cX9_kings 48 = .ok (.iload_n 1, 1) := by decide +kernel
theorem dX9_kings_49 : decode cX9_kings 49 = .ok (.ireturn, 1) := by decide +kernel
theorem dX9_king_0 : decode cX9_king 0 = .ok (.aload_n 0, 1) := by decide +kernel
theorem dX9_king_1 : decode cX9_king 1 = .ok (.iload_n 1, 1) := by decide +kernel
theorem dX9_king_2 : decode cX9_king 2 = .ok (.invokevirtual 175, 3) := by decide +kernel
theorem dX9_king_5 : decode cX9_king 5 = .ok (.ifCond .eq 17, 3) := by decide +kernel
theorem dX9_king_8 : decode cX9_king 8 = .ok (.iload_n 2, 1) := by decide +kernel
theorem dX9_king_9 : decode cX9_king 9 = .ok (.iconst (-1), 1) := by decide +kernel
theorem dX9_king_10 : decode cX9_king 10 = .ok (.aload_n 0, 1) := by decide +kernel
theorem dX9_king_11 : decode cX9_king 11 = .ok (.getfield 74, 3) := by decide +kernel
theorem dX9_king_14 : decode cX9_king 14 = .ok (.iconst 1, 1) := by decide +kernel
theorem dX9_king_15 : decode cX9_king 15 = .ok (.isub, 1) := by decide +kernel
theorem dX9_king_16 : decode cX9_king 16 = .ok (.invokestatic 78, 3) := by decide +kernel
theorem dX9_king_19 : decode cX9_king 19 = .ok (.ifCond .ne 5, 3) := by decide +kernel
theorem dX9_king_22 : decode cX9_king 22 = .ok (.iconst (-1), 1) := by decide +kernel
theorem dX9_king_23 : decode cX9_king 23 = .ok (.ireturn, 1) := by decide +kernel
theorem dX9_king_24 : decode cX9_king 24 = .ok (.aload_n 0, 1) := by decide +kernel
theorem dX9_king_25 : decode cX9_king 25 = .ok (.invokevirtual 184, 3) := by decide +kernel
theorem dX9_king_28 : decode cX9_king 28 = .ok (.ifCond .ne 6, 3) := by decide +kernel
theorem dX9_king_31 : decode cX9_king 31 = .ok (.bipush (-2), 2) := by decide +kernel
theorem dX9_king_33 : decode cX9_king 33 = .ok (.ireturn, 1) := by decide +kernel
theorem dX9_king_34 : decode cX9_king 34 = .ok (.aload_n 0, 1) := by decide +kernel
theorem dX9_king_35 : decode cX9_king 35 = .ok (.invokevirtual 216, 3) := by decide +kernel
theorem dX9_king_38 : decode cX9_king 38 = .ok (.aload_n 0, 1) := by decide +kernel
theorem dX9_king_39 : decode cX9_king 39 = .ok (.getfield 65, 3) := by decide +kernel
theorem dX9_king_42 : decode cX9_king 42 = .ok (.iload_n 1, 1) := by decide +kernel
theorem dX9_king_43 : decode cX9_king 43 = .ok (.iaload, 1) := by decide +kernel
theorem dX9_king_44 : decode cX9_king 44 = .ok (.ifCond .ge 8, 3) := by decide +kernel
theorem dX9_king_47 : decode cX9_king 47 = .ok (.bipush (-9), 2) := by decide +kernel
theorem dX9_king_49 : decode cX9_king 49 = .ok (.goto 26, 3) := by decide +kernel
theorem dX9_king_52 : decode cX9_king 52 = .ok (.iload_n 2, 1) := by decide +kernel
theorem dX9_king_53 : decode cX9_king 53 = .ok (.ifCond .ge 12, 3) := by decide +kernel
theorem dX9_king_56 : decode cX9_king 56 = .ok (.aload_n 0, 1) := by decide +kernel
theorem dX9_king_57 : decode cX9_king 57 = .ok (.getfield 65, 3) := by decide +kernel
theorem dX9_king_60 : decode cX9_king 60 = .ok (.iload_n 1, 1) := by decide +kernel
theorem dX9_king_61 : decode cX9_king 61 = .ok (.iaload, 1) := by decide +kernel
theorem dX9_king_62 : decode cX9_king 62 = .ok (.goto 13, 3) := by decide +kernel
theorem dX9_king_65 : decode cX9_king 65 = .ok (.aload_n 0, 1) := by decide +kernel
theorem dX9_king_66 : decode cX9_king 66 = .ok (.getfield 62, 3) := by decide +kernel
theorem dX9_king_69 : decode cX9_king 69 = .ok (.iconst 5, 1) := by decide +kernel
theorem dX9_king_70 : decode cX9_king 70 = .ok (.iload_n 1, 1) := by decide +kernel
theorem dX9_king_71 : decode cX9_king 71 = .ok (.imul, 1) := by decide +kernel
theorem dX9_king_72 : decode cX9_king 72 = .ok (.iload_n 2, 1) := by decide +kernel
theorem dX9_king_73 : decode cX9_king 73 = .ok (.iadd, 1) := by decide +kernel
theorem dX9_king_74 : decode cX9_king 74 = .ok (.iaload, 1) := by decide +kernel
theorem dX9_king_75 : decode cX9_king 75 = .ok (.ireturn, 1) := by decide +kernel
theorem dX9_fair_0 : decode cX9_fair 0 = .ok (.iload_n 1, 1) := by decide +kernel
theorem dX9_fair_1 : decode cX9_fair 1 = .ok (.iconst (-1), 1) := by decide +kernel
theorem dX9_fair_2 : decode cX9_fair 2 = .ok (.aload_n 0, 1) := by decide +kernel
theorem dX9_fair_3 : decode cX9_fair 3 = .ok (.getfield 74, 3) := by decide +kernel
theorem dX9_fair_6 : decode cX9_fair 6 = .ok (.iconst 1, 1) := by decide +kernel
theorem dX9_fair_7 : decode cX9_fair 7 = .ok (.isub, 1) := by decide +kernel
theorem dX9_fair_8 : decode cX9_fair 8 = .ok (.invokestatic 78, 3) := by decide +kernel
theorem dX9_fair_11 : decode cX9_fair 11 = .ok (.ifCond .ne 5, 3) := by decide +kernel
theorem dX9_fair_14 : decode cX9_fair 14 = .ok (.iconst (-1), 1) := by decide +kernel
theorem dX9_fair_15 : decode cX9_fair 15 = .ok (.ireturn, 1) := by decide +kernel
theorem dX9_fair_16 : decode cX9_fair 16 = .ok (.aload_n 0, 1) := by decide +kernel
theorem dX9_fair_17 : decode cX9_fair 17 = .ok (.invokevirtual 184, 3) := by decide +kernel
theorem dX9_fair_20 : decode cX9_fair 20 = .ok (.ifCond .ne 6, 3) := by decide +kernel
theorem dX9_fair_23 : decode cX9_fair 23 = .ok (.bipush (-2), 2) := by decide +kernel
theorem dX9_fair_25 : decode cX9_fair 25 = .ok (.ireturn, 1) := by decide +kernel
theorem dX9_fair_26 : decode cX9_fair 26 = .ok (.iconst 1, 1) := by decide +kernel
theorem dX9_fair_27 : decode cX9_fair 27 = .ok (.istore_n 2, 1) := by decide +kernel
theorem dX9_fair_28 : decode cX9_fair 28 = .ok (.aload_n 0, 1) := by decide +kernel
theorem dX9_fair_29 : decode cX9_fair 29 = .ok (.invokevirtual 178, 3) := by decide +kernel
theorem dX9_fair_32 : decode cX9_fair 32 = .ok (.iconst 0, 1) := by decide +kernel
theorem dX9_fair_33 : decode cX9_fair 33 = .ok (.istore_n 3, 1) := by decide +kernel
theorem dX9_fair_34 : decode cX9_fair 34 = .ok (.iload_n 3, 1) := by decide +kernel
theorem dX9_fair_35 : decode cX9_fair 35 = .ok (.aload_n 0, 1) := by decide +kernel
theorem dX9_fair_36 : decode cX9_fair 36 = .ok (.getfield 74, 3) := by decide +kernel
theorem dX9_fair_39 : decode cX9_fair 39 = .ok (.if_icmp .ge 34, 3) := by decide +kernel
theorem dX9_fair_42 : decode cX9_fair 42 = .ok (.aload_n 0, 1) := by decide +kernel
theorem dX9_fair_43 : decode cX9_fair 43 = .ok (.getfield 47, 3) := by decide +kernel
theorem dX9_fair_46 : decode cX9_fair 46 = .ok (.iconst 5, 1) := by decide +kernel
theorem dX9_fair_47 : decode cX9_fair 47 = .ok (.iload_n 3, 1) := by decide +kernel
theorem dX9_fair_48 : decode cX9_fair 48 = .ok (.iadd, 1) := by decide +kernel
theorem dX9_fair_49 : decode cX9_fair 49 = .ok (.iconst 0, 1) := by decide +kernel
theorem dX9_fair_50 : decode cX9_fair 50 = .ok (.iastore, 1) := by decide +kernel
theorem dX9_fair_51 : decode cX9_fair 51 = .ok (.aload_n 0, 1) := by decide +kernel
theorem dX9_fair_52 : decode cX9_fair 52 = .ok (.getfield 71, 3) := by decide +kernel
theorem dX9_fair_55 : decode cX9_fair 55 = .ok (.iload_n 3, 1) := by decide +kernel
theorem dX9_fair_56 : decode cX9_fair 56 = .ok (.aload_n 0, 1) := by decide +kernel
theorem dX9_fair_57 : decode cX9_fair 57 = .ok (.iload_n 3, 1) := by decide +kernel
theorem dX9_fair_58 : decode cX9_fair 58 = .ok (.invokevirtual 181, 3) := by decide +kernel
theorem dX9_fair_61 : decode cX9_fair 61 = .ok (.iastore, 1) := by decide +kernel
theorem dX9_fair_62 : decode cX9_fair 62 = .ok (.iload_n 2, 1) := by decide +kernel
theorem dX9_fair_63 : decode cX9_fair 63 = .ok (.bipush 6, 2) := by decide +kernel
theorem dX9_fair_65 : decode cX9_fair 65 = .ok (.imul, 1) := by decide +kernel
theorem dX9_fair_66 : decode cX9_fair 66 = .ok (.istore_n 2, 1) := by decide +kernel
theorem dX9_fair_67 : decode cX9_fair 67 = .ok (.iinc 3 1, 3) := by decide +kernel
theorem dX9_fair_70 : decode cX9_fair 70 = .ok (.goto (-36), 3) := by decide +kernel
theorem dX9_fair_73 : decode cX9_fair 73 = .ok (.iconst (-1), 1) := by decide +kernel
theorem dX9_fair_74 : decode cX9_fair 74 = .ok (.istore_n 3, 1) := by decide +kernel
theorem dX9_fair_75 : decode cX9_fair 75 = .ok (.iconst 0, 1) := by decide +kernel
theorem dX9_fair_76 : decode cX9_fair 76 = .ok (.istore 4, 2) := by decide +kernel
theorem dX9_fair_78 : decode cX9_fair 78 = .ok (.iconst 0, 1) := by decide +kernel
theorem dX9_fair_79 : decode cX9_fair 79 = .ok (.istore 5, 2) := by decide +kernel
theorem dX9_fair_81 : decode cX9_fair 81 = .ok (.iload 5, 2) := by decide +kernel
theorem dX9_fair_83 : decode cX9_fair 83 = .ok (.iload_n 2, 1) := by decide +kernel
theorem dX9_fair_84 : decode cX9_fair 84 = .ok (.if_icmp .ge 212, 3) := by decide +kernel
theorem dX9_fair_87 : decode cX9_fair 87 = .ok (.iload 5, 2) := by decide +kernel
theorem dX9_fair_89 : decode cX9_fair 89 = .ok (.istore 6, 2) := by decide +kernel
theorem dX9_fair_91 : decode cX9_fair 91 = .ok (.sipush 10000, 3) := by decide +kernel
theorem dX9_fair_94 : decode cX9_fair 94 = .ok (.istore 7, 2) := by decide +kernel
theorem dX9_fair_96 : decode cX9_fair 96 = .ok (.iconst 0, 1) := by decide +kernel
theorem dX9_fair_97 : decode cX9_fair 97 = .ok (.istore 8, 2) := by decide +kernel
theorem dX9_fair_99 : decode cX9_fair 99 = .ok (.iconst 0, 1) := by decide +kernel
theorem dX9_fair_100 : decode cX9_fair 100 = .ok (.istore 9, 2) := by decide +kernel
theorem dX9_fair_102 : decode cX9_fair 102 = .ok (.aload_n 0, 1) := by decide +kernel
theorem dX9_fair_103 : decode cX9_fair 103 = .ok (.getfield 74, 3) := by decide +kernel
theorem dX9_fair_106 : decode cX9_fair 106 = .ok (.iconst 1, 1) := by decide +kernel
theorem dX9_fair_107 : decode cX9_fair 107 = .ok (.isub, 1) := by decide +kernel
theorem dX9_fair_108 : decode cX9_fair 108 = .ok (.istore 10, 2) := by decide +kernel
theorem dX9_fair_110 : decode cX9_fair 110 = .ok (.iload 10, 2) := by decide +kernel
theorem dX9_fair_112 : decode cX9_fair 112 = .ok (.ifCond .lt 105, 3) := by decide +kernel
theorem dX9_fair_115 : decode cX9_fair 115 = .ok (.iload 6, 2) := by decide +kernel
theorem dX9_fair_117 : decode cX9_fair 117 = .ok (.bipush 6, 2) := by decide +kernel
theorem dX9_fair_119 : decode cX9_fair 119 = .ok (.irem, 1) := by decide +kernel
theorem dX9_fair_120 : decode cX9_fair 120 = .ok (.istore 11, 2) := by decide +kernel
theorem dX9_fair_122 : decode cX9_fair 122 = .ok (.iload 6, 2) := by decide +kernel
theorem dX9_fair_124 : decode cX9_fair 124 = .ok (.bipush 6, 2) := by decide +kernel
theorem dX9_fair_126 : decode cX9_fair 126 = .ok (.idiv, 1) := by decide +kernel
theorem dX9_fair_127 : decode cX9_fair 127 = .ok (.istore 6, 2) := by decide +kernel
theorem dX9_fair_129 : decode cX9_fair 129 = .ok (.aload_n 0, 1) := by decide +kernel
theorem dX9_fair_130 : decode cX9_fair 130 = .ok (.getfield 47, 3) := by decide +kernel
theorem dX9_fair_133 : decode cX9_fair 133 = .ok (.iconst 5, 1) := by decide +kernel
theorem dX9_fair_134 : decode cX9_fair 134 = .ok (.iload 10, 2) := by decide +kernel
theorem dX9_fair_136 : decode cX9_fair 136 = .ok (.iadd, 1) := by decide +kernel
theorem dX9_fair_137 : decode cX9_fair 137 = .ok (.iload 11, 2) := by decide +kernel
theorem dX9_fair_139 : decode cX9_fair 139 = .ok (.iastore, 1) := by decide +kernel
theorem dX9_fair_140 : decode cX9_fair 140 = .ok (.iload 9, 2) := by decide +kernel
theorem dX9_fair_142 : decode cX9_fair 142 = .ok (.iload 11, 2) := by decide +kernel
theorem dX9_fair_144 : decode cX9_fair 144 = .ok (.iadd, 1) := by decide +kernel
theorem dX9_fair_145 : decode cX9_fair 145 = .ok (.istore 9, 2) := by decide +kernel
theorem dX9_fair_147 : decode cX9_fair 147 = .ok (.aload_n 0, 1) := by decide +kernel
theorem dX9_fair_148 : decode cX9_fair 148 = .ok (.getfield 71, 3) := by decide +kernel
theorem dX9_fair_151 : decode cX9_fair 151 = .ok (.iload 10, 2) := by decide +kernel
theorem dX9_fair_153 : decode cX9_fair 153 = .ok (.iaload, 1) := by decide +kernel
theorem dX9_fair_154 : decode cX9_fair 154 = .ok (.iload 11, 2) := by decide +kernel
theorem dX9_fair_156 : decode cX9_fair 156 = .ok (.iadd, 1) := by decide +kernel
theorem dX9_fair_157 : decode cX9_fair 157 = .ok (.iload 7, 2) := by decide +kernel
theorem dX9_fair_159 : decode cX9_fair 159 = .ok (.if_icmp .ge 16, 3) := by decide +kernel
theorem dX9_fair_162 : decode cX9_fair 162 = .ok (.aload_n 0, 1) := by decide +kernel
theorem dX9_fair_163 : decode cX9_fair 163 = .ok (.getfield 71, 3) := by decide +kernel
theorem dX9_fair_166 : decode cX9_fair 166 = .ok (.iload 10, 2) := by decide +kernel
theorem dX9_fair_168 : decode cX9_fair 168 = .ok (.iaload, 1) := by decide +kernel
theorem dX9_fair_169 : decode cX9_fair 169 = .ok (.iload 11, 2) := by decide +kernel
theorem dX9_fair_171 : decode cX9_fair 171 = .ok (.iadd, 1) := by decide +kernel
theorem dX9_fair_172 : decode cX9_fair 172 = .ok (.goto 5, 3) := by decide +kernel
theorem dX9_fair_175 : decode cX9_fair 175 = .ok (.iload 7, 2) := by decide +kernel
theorem dX9_fair_177 : decode cX9_fair 177 = .ok (.istore 7, 2) := by decide +kernel
theorem dX9_fair_179 : decode cX9_fair 179 = .ok (.aload_n 0, 1) := by decide +kernel
theorem dX9_fair_180 : decode cX9_fair 180 = .ok (.getfield 71, 3) := by decide +kernel
theorem dX9_fair_183 : decode cX9_fair 183 = .ok (.iload 10, 2) := by decide +kernel
theorem dX9_fair_185 : decode cX9_fair 185 = .ok (.iaload, 1) := by decide +kernel
theorem dX9_fair_186 : decode cX9_fair 186 = .ok (.iload 11, 2) := by decide +kernel
theorem dX9_fair_188 : decode cX9_fair 188 = .ok (.iadd, 1) := by decide +kernel
theorem dX9_fair_189 : decode cX9_fair 189 = .ok (.iload 8, 2) := by decide +kernel
theorem dX9_fair_191 : decode cX9_fair 191 = .ok (.if_icmp .le 16, 3) := by decide +kernel
theorem dX9_fair_194 : decode cX9_fair 194 = .ok (.aload_n 0, 1) := by decide +kernel
theorem dX9_fair_195 : decode cX9_fair 195 = .ok (.getfield 71, 3) := by decide +kernel
theorem dX9_fair_198 : decode cX9_fair 198 = .ok (.iload 10, 2) := by decide +kernel
theorem dX9_fair_200 : decode cX9_fair 200 = .ok (.iaload, 1) := by decide +kernel
theorem dX9_fair_201 : decode cX9_fair 201 = .ok (.iload 11, 2) := by decide +kernel
theorem dX9_fair_203 : decode cX9_fair 203 = .ok (.iadd, 1) := by decide +kernel
theorem dX9_fair_204 : decode cX9_fair 204 = .ok (.goto 5, 3) := by decide +kernel
theorem dX9_fair_207 : decode cX9_fair 207 = .ok (.iload 8, 2) := by decide +kernel
theorem dX9_fair_209 : decode cX9_fair 209 = .ok (.istore 8, 2) := by decide +kernel
theorem dX9_fair_211 : decode cX9_fair 211 = .ok (.iinc 10 (-1), 3) := by decide +kernel
theorem dX9_fair_214 : decode cX9_fair 214 = .ok (.goto (-104), 3) := by decide +kernel
theorem dX9_fair_217 : decode cX9_fair 217 = .ok (.iload_n 3, 1) := by decide +kernel
theorem dX9_fair_218 : decode cX9_fair 218 = .ok (.ifCond .lt 28, 3) := by decide +kernel
theorem dX9_fair_221 : decode cX9_fair 221 = .ok (.iload 8, 2) := by decide +kernel
theorem dX9_fair_223 : decode cX9_fair 223 = .ok (.iload 7, 2) := by decide +kernel
theorem dX9_fair_225 : decode cX9_fair 225 = .ok (.isub, 1) := by decide +kernel
theorem dX9_fair_226 : decode cX9_fair 226 = .ok (.iload_n 3, 1) := by decide +kernel
theorem dX9_fair_227 : decode cX9_fair 227 = .ok (.if_icmp .lt 19, 3) := by decide +kernel
theorem dX9_fair_230 : decode cX9_fair 230 = .ok (.iload 8, 2) := by decide +kernel
theorem dX9_fair_232 : decode cX9_fair 232 = .ok (.iload 7, 2) := by decide +kernel
theorem dX9_fair_234 : decode cX9_fair 234 = .ok (.isub, 1) := by decide +kernel
theorem dX9_fair_235 : decode cX9_fair 235 = .ok (.iload_n 3, 1) := by decide +kernel
theorem dX9_fair_236 : decode cX9_fair 236 = .ok (.if_icmp .ne 54, 3) := by decide +kernel
theorem dX9_fair_239 : decode cX9_fair 239 = .ok (.iload 9, 2) := by decide +kernel
theorem dX9_fair_241 : decode cX9_fair 241 = .ok (.iload 4, 2) := by decide +kernel
theorem dX9_fair_243 : decode cX9_fair 243 = .ok (.if_icmp .ge 47, 3) := by decide +kernel
theorem dX9_fair_246 : decode cX9_fair 246 = .ok (.iload 8, 2) := by decide +kernel
theorem dX9_fair_248 : decode cX9_fair 248 = .ok (.iload 7, 2) := by decide +kernel
theorem dX9_fair_250 : decode cX9_fair 250 = .ok (.isub, 1) := by decide +kernel
theorem dX9_fair_251 : decode cX9_fair 251 = .ok (.istore_n 3, 1) := by decide +kernel
theorem dX9_fair_252 : decode cX9_fair 252 = .ok (.iload 9, 2) := by decide +kernel
theorem dX9_fair_254 : decode cX9_fair 254 = .ok (.istore 4, 2) := by decide +kernel
theorem dX9_fair_256 : decode cX9_fair 256 = .ok (.iconst 0, 1) := by decide +kernel
theorem dX9_fair_257 : decode cX9_fair 257 = .ok (.istore 10, 2) := by decide +kernel
theorem dX9_fair_259 : decode cX9_fair 259 = .ok (.iload 10, 2) := by decide +kernel
theorem dX9_fair_261 : decode cX9_fair 261 = .ok (.aload_n 0, 1) := by decide +kernel
theorem dX9_fair_262 : decode cX9_fair 262 = .ok (.getfield 74, 3) := by decide +kernel
theorem dX9_fair_265 : decode cX9_fair 265 = .ok (.if_icmp .ge 25, 3) := by decide +kernel
theorem dX9_fair_268 : decode cX9_fair 268 = .ok (.aload_n 0, 1) := by decide +kernel
theorem dX9_fair_269 : decode cX9_fair 269 = .ok (.getfield 68, 3) := by decide +kernel
theorem dX9_fair_272 : decode cX9_fair 272 = .ok (.iload 10, 2) := by decide +kernel
theorem dX9_fair_274 : decode cX9_fair 274 = .ok (.aload_n 0, 1) := by decide +kernel
theorem dX9_fair_275 : decode cX9_fair 275 = .ok (.getfield 47, 3) := by decide +kernel
theorem dX9_fair_278 : decode cX9_fair 278 = .ok (.iconst 5, 1) := by decide +kernel
theorem dX9_fair_279 : decode cX9_fair 279 = .ok (.iload 10, 2) := by decide +kernel
theorem dX9_fair_281 : decode cX9_fair 281 = .ok (.iadd, 1) := by decide +kernel
theorem dX9_fair_282 : decode cX9_fair 282 = .ok (.iaload, 1) := by decide +kernel
theorem dX9_fair_283 : decode cX9_fair 283 = .ok (.iastore, 1) := by decide +kernel
theorem dX9_fair_284 : decode cX9_fair 284 = .ok (.iinc 10 1, 3) := by decide +kernel
theorem dX9_fair_287 : decode cX9_fair 287 = .ok (.goto (-28), 3) := by decide +kernel
theorem dX9_fair_290 : decode cX9_fair 290 = .ok (.iinc 5 1, 3) := by decide +kernel
theorem dX9_fair_293 : decode cX9_fair 293 = .ok (.goto (-212), 3) := by decide +kernel
theorem dX9_fair_296 : decode cX9_fair 296 = .ok (.iload_n 1, 1) := by decide +kernel
theorem dX9_fair_297 : decode cX9_fair 297 = .ok (.ifCond .ge 7, 3) := by decide +kernel
theorem dX9_fair_300 : decode cX9_fair 300 = .ok (.iload_n 3, 1) := by decide +kernel
theorem dX9_fair_301 : decode cX9_fair 301 = .ok (.goto 9, 3) := by decide +kernel
theorem dX9_fair_304 : decode cX9_fair 304 = .ok (.aload_n 0, 1) := by decide +kernel
theorem dX9_fair_305 : decode cX9_fair 305 = .ok (.getfield 68, 3) := by decide +kernel
theorem dX9_fair_308 : decode cX9_fair 308 = .ok (.iload_n 1, 1) := by decide +kernel
theorem dX9_fair_309 : decode cX9_fair 309 = .ok (.iaload, 1) := by decide +kernel
theorem dX9_fair_310 : decode cX9_fair 310 = .ok (.ireturn, 1) := by decide +kernel
theorem dX9_odds_0 : decode cX9_odds 0 = .ok (.aload_n 0, 1) := by decide +kernel
theorem dX9_odds_1 : decode cX9_odds 1 = .ok (.iload_n 1, 1) := by decide +kernel
theorem dX9_odds_2 : decode cX9_odds 2 = .ok (.invokevirtual 175, 3) := by decide +kernel
theorem dX9_odds_5 : decode cX9_odds 5 = .ok (.ifCond .eq 22, 3) := by decide +kernel
theorem dX9_odds_8 : decode cX9_odds 8 = .ok (.iload_n 2, 1) := by decide +kernel
theorem dX9_odds_9 : decode cX9_odds 9 = .ok (.iconst 0, 1) := by decide +kernel
theorem dX9_odds_10 : decode cX9_odds 10 = .ok (.bipush 10, 2) := by decide +kernel
theorem dX9_odds_12 : decode cX9_odds 12 = .ok (.invokestatic 78, 3) := by decide +kernel
theorem dX9_odds_15 : decode cX9_odds 15 = .ok (.ifCond .eq 12, 3) := by decide +kernel
theorem dX9_odds_18 : decode cX9_odds 18 = .ok (.iload_n 3, 1) := by decide +kernel
theorem dX9_odds_19 : decode cX9_odds 19 = .ok (.iconst 0, 1) := by decide +kernel
theorem dX9_odds_20 : decode cX9_odds 20 = .ok (.iconst 1, 1) := by decide +kernel
theorem dX9_odds_21 : decode cX9_odds 21 = .ok (.invokestatic 78, 3) := by decide +kernel
theorem dX9_odds_24 : decode cX9_odds 24 = .ok (.ifCond .ne 5, 3) := by decide +kernel
theorem dX9_odds_27 : decode cX9_odds 27 = .ok (.iconst (-1), 1) := by decide +kernel
theorem dX9_odds_28 : decode cX9_odds 28 = .ok (.ireturn, 1) := by decide +kernel
theorem dX9_odds_29 : decode cX9_odds 29 = .ok (.aload_n 0, 1) := by decide +kernel
theorem dX9_odds_30 : decode cX9_odds 30 = .ok (.invokevirtual 184, 3) := by decide +kernel
theorem dX9_odds_33 : decode cX9_odds 33 = .ok (.ifCond .ne 6, 3) := by decide +kernel
theorem dX9_odds_36 : decode cX9_odds 36 = .ok (.bipush (-2), 2) := by decide +kernel
theorem dX9_odds_38 : decode cX9_odds 38 = .ok (.ireturn, 1) := by decide +kernel
theorem dX9_odds_39 : decode cX9_odds 39 = .ok (.iconst 1, 1) := by decide +kernel
theorem dX9_odds_40 : decode cX9_odds 40 = .ok (.istore 4, 2) := by decide +kernel
theorem dX9_odds_42 : decode cX9_odds 42 = .ok (.iconst 0, 1) := by decide +kernel
theorem dX9_odds_43 : decode cX9_odds 43 = .ok (.istore 5, 2) := by decide +kernel
theorem dX9_odds_45 : decode cX9_odds 45 = .ok (.iload 5, 2) := by decide +kernel
theorem dX9_odds_47 : decode cX9_odds 47 = .ok (.aload_n 0, 1) := by decide +kernel
theorem dX9_odds_48 : decode cX9_odds 48 = .ok (.getfield 74, 3) := by decide +kernel
theorem dX9_odds_51 : decode cX9_odds 51 = .ok (.if_icmp .ge 16, 3) := by decide +kernel
theorem dX9_odds_54 : decode cX9_odds 54 = .ok (.iload 4, 2) := by decide +kernel
theorem dX9_odds_56 : decode cX9_odds 56 = .ok (.bipush 10, 2) := by decide +kernel
theorem dX9_odds_58 : decode cX9_odds 58 = .ok (.imul, 1) := by decide +kernel
theorem dX9_odds_59 : decode cX9_odds 59 = .ok (.istore 4, 2) := by decide +kernel
theorem dX9_odds_61 : decode cX9_odds 61 = .ok (.iinc 5 1, 3) := by decide +kernel
theorem dX9_odds_64 : decode cX9_odds 64 = .ok (.goto (-19), 3) := by decide +kernel
theorem dX9_odds_67 : decode cX9_odds 67 = .ok (.iconst 0, 1) := by decide +kernel
theorem dX9_odds_68 : decode cX9_odds 68 = .ok (.istore 5, 2) := by decide +kernel
theorem dX9_odds_70 : decode cX9_odds 70 = .ok (.aload_n 0, 1) := by decide +kernel
theorem dX9_odds_71 : decode cX9_odds 71 = .ok (.invokevirtual 178, 3) := by decide +kernel
theorem dX9_odds_74 : decode cX9_odds 74 = .ok (.iconst 0, 1) := by decide +kernel
theorem dX9_odds_75 : decode cX9_odds 75 = .ok (.istore 6, 2) := by decide +kernel
theorem dX9_odds_77 : decode cX9_odds 77 = .ok (.iload 6, 2) := by decide +kernel
theorem dX9_odds_79 : decode cX9_odds 79 = .ok (.iconst 1, 1) := by decide +kernel
theorem dX9_odds_80 : decode cX9_odds 80 = .ok (.aload_n 0, 1) := by decide +kernel
theorem dX9_odds_81 : decode cX9_odds 81 = .ok (.getfield 74, 3) := by decide +kernel
theorem dX9_odds_84 : decode cX9_odds 84 = .ok (.ishl, 1) := by decide +kernel
theorem dX9_odds_85 : decode cX9_odds 85 = .ok (.if_icmp .ge 80, 3) := by decide +kernel
theorem dX9_odds_88 : decode cX9_odds 88 = .ok (.iconst 1, 1) := by decide +kernel
theorem dX9_odds_89 : decode cX9_odds 89 = .ok (.istore 7, 2) := by decide +kernel
theorem dX9_odds_91 : decode cX9_odds 91 = .ok (.iconst 0, 1) := by decide +kernel
theorem dX9_odds_92 : decode cX9_odds 92 = .ok (.istore 8, 2) := by decide +kernel
theorem dX9_odds_94 : decode cX9_odds 94 = .ok (.iload 8, 2) := by decide +kernel
theorem dX9_odds_96 : decode cX9_odds 96 = .ok (.aload_n 0, 1) := by decide +kernel
theorem dX9_odds_97 : decode cX9_odds 97 = .ok (.getfield 74, 3) := by decide +kernel
theorem dX9_odds_100 : decode cX9_odds 100 = .ok (.if_icmp .ge 32, 3) := by decide +kernel
theorem dX9_odds_103 : decode cX9_odds 103 = .ok (.iload 7, 2) := by decide +kernel
theorem dX9_odds_105 : decode cX9_odds 105 = .ok (.iload 6, 2) := by decide +kernel
theorem dX9_odds_107 : decode cX9_odds 107 = .ok (.iload 8, 2) := by decide +kernel
theorem dX9_odds_109 : decode cX9_odds 109 = .ok (.invokestatic 158, 3) := by decide +kernel
theorem dX9_odds_112 : decode cX9_odds 112 = .ok (.ifCond .eq 7, 3) := by decide +kernel
theorem dX9_odds_115 : decode cX9_odds 115 = .ok (.iload_n 2, 1) := by decide +kernel
theorem dX9_odds_116 : decode cX9_odds 116 = .ok (.goto 7, 3) := by decide +kernel
theorem dX9_odds_119 : decode cX9_odds 119 = .ok (.bipush 10, 2) := by decide +kernel
theorem dX9_odds_121 : decode cX9_odds 121 = .ok (.iload_n 2, 1) := by decide +kernel
theorem dX9_odds_122 : decode cX9_odds 122 = .ok (.isub, 1) := by decide +kernel
theorem dX9_odds_123 : decode cX9_odds 123 = .ok (.imul, 1) := by decide +kernel
theorem dX9_odds_124 : decode cX9_odds 124 = .ok (.istore 7, 2) := by decide +kernel
theorem dX9_odds_126 : decode cX9_odds 126 = .ok (.iinc 8 1, 3) := by decide +kernel
theorem dX9_odds_129 : decode cX9_odds 129 = .ok (.goto (-35), 3) := by decide +kernel
theorem dX9_odds_132 : decode cX9_odds 132 = .ok (.aload_n 0, 1) := by decide +kernel
theorem dX9_odds_133 : decode cX9_odds 133 = .ok (.iload 6, 2) := by decide +kernel
theorem dX9_odds_135 : decode cX9_odds 135 = .ok (.invokevirtual 192, 3) := by decide +kernel
theorem dX9_odds_138 : decode cX9_odds 138 = .ok (.iload 5, 2) := by decide +kernel
theorem dX9_odds_140 : decode cX9_odds 140 = .ok (.aload_n 0, 1) := by decide +kernel
theorem dX9_odds_141 : decode cX9_odds 141 = .ok (.getfield 59, 3) := by decide +kernel
theorem dX9_odds_144 : decode cX9_odds 144 = .ok (.iconst 0, 1) := by decide +kernel
theorem dX9_odds_145 : decode cX9_odds 145 = .ok (.iaload, 1) := by decide +kernel
theorem dX9_odds_146 : decode cX9_odds 146 = .ok (.iload_n 1, 1) := by decide +kernel
theorem dX9_odds_147 : decode cX9_odds 147 = .ok (.if_icmp .ne 8, 3) := by decide +kernel
theorem dX9_odds_150 : decode cX9_odds 150 = .ok (.iload 7, 2) := by decide +kernel
theorem dX9_odds_152 : decode cX9_odds 152 = .ok (.goto 4, 3) := by decide +kernel
theorem dX9_odds_155 : decode cX9_odds 155 = .ok (.iconst 0, 1) := by decide +kernel
theorem dX9_odds_156 : decode cX9_odds 156 = .ok (.iadd, 1) := by decide +kernel
theorem dX9_odds_157 : decode cX9_odds 157 = .ok (.istore 5, 2) := by decide +kernel
theorem dX9_odds_159 : decode cX9_odds 159 = .ok (.iinc 6 1, 3) := by decide +kernel
theorem dX9_odds_162 : decode cX9_odds 162 = .ok (.goto (-85), 3) := by decide +kernel
theorem dX9_odds_165 : decode cX9_odds 165 = .ok (.iload 5, 2) := by decide +kernel
theorem dX9_odds_167 : decode cX9_odds 167 = .ok (.istore 6, 2) := by decide +kernel
theorem dX9_odds_169 : decode cX9_odds 169 = .ok (.iload 4, 2) := by decide +kernel
theorem dX9_odds_171 : decode cX9_odds 171 = .ok (.istore 7, 2) := by decide +kernel
theorem dX9_odds_173 : decode cX9_odds 173 = .ok (.iload 7, 2) := by decide +kernel
theorem dX9_odds_175 : decode cX9_odds 175 = .ok (.ifCond .le 21, 3) := by decide +kernel
theorem dX9_odds_178 : decode cX9_odds 178 = .ok (.iload 6, 2) := by decide +kernel
theorem dX9_odds_180 : decode cX9_odds 180 = .ok (.iload 7, 2) := by decide +kernel
theorem dX9_odds_182 : decode cX9_odds 182 = .ok (.irem, 1) := by decide +kernel
theorem dX9_odds_183 : decode cX9_odds 183 = .ok (.istore 8, 2) := by decide +kernel
theorem dX9_odds_185 : decode cX9_odds 185 = .ok (.iload 7, 2) := by decide +kernel
theorem dX9_odds_187 : decode cX9_odds 187 = .ok (.istore 6, 2) := by decide +kernel
theorem dX9_odds_189 : decode cX9_odds 189 = .ok (.iload 8, 2) := by decide +kernel
theorem dX9_odds_191 : decode cX9_odds 191 = .ok (.istore 7, 2) := by decide +kernel
theorem dX9_odds_193 : decode cX9_odds 193 = .ok (.goto (-20), 3) := by decide +kernel
theorem dX9_odds_196 : decode cX9_odds 196 = .ok (.iload_n 3, 1) := by decide +kernel
theorem dX9_odds_197 : decode cX9_odds 197 = .ok (.ifCond .ne 8, 3) := by decide +kernel
theorem dX9_odds_200 : decode cX9_odds 200 = .ok (.iload 5, 2) := by decide +kernel
theorem dX9_odds_202 : decode cX9_odds 202 = .ok (.goto 5, 3) := by decide +kernel
theorem dX9_odds_205 : decode cX9_odds 205 = .ok (.iload 4, 2) := by decide +kernel
theorem dX9_odds_207 : decode cX9_odds 207 = .ok (.iload 6, 2) := by decide +kernel
theorem dX9_odds_209 : decode cX9_odds 209 = .ok (.idiv, 1) := by decide +kernel
theorem dX9_odds_210 : decode cX9_odds 210 = .ok (.ireturn, 1) := by decide +kernel
theorem dX9_times_0 : decode cX9_times 0 = .ok (.aload_n 0, 1) := by decide +kernel
theorem dX9_times_1 : decode cX9_times 1 = .ok (.iload_n 1, 1) := by decide +kernel
theorem dX9_times_2 : decode cX9_times 2 = .ok (.invokevirtual 175, 3) := by decide +kernel
theorem dX9_times_5 : decode cX9_times 5 = .ok (.ifCond .eq 14, 3) := by decide +kernel
theorem dX9_times_8 : decode cX9_times 8 = .ok (.iload_n 2, 1) := by decide +kernel
theorem dX9_times_9 : decode cX9_times 9 = .ok (.iconst 1, 1) := by decide +kernel
theorem dX9_times_10 : decode cX9_times 10 = .ok (.sipush 200, 3) := by decide +kernel
theorem dX9_times_13 : decode cX9_times 13 = .ok (.invokestatic 78, 3) := by decide +kernel
theorem dX9_times_16 : decode cX9_times 16 = .ok (.ifCond .ne 5, 3) := by decide +kernel
theorem dX9_times_19 : decode cX9_times 19 = .ok (.iconst (-1), 1) := by decide +kernel
theorem dX9_times_20 : decode cX9_times 20 = .ok (.ireturn, 1) := by decide +kernel
theorem dX9_times_21 : decode cX9_times 21 = .ok (.aload_n 0, 1) := by decide +kernel
theorem dX9_times_22 : decode cX9_times 22 = .ok (.invokevirtual 184, 3) := by decide +kernel
theorem dX9_times_25 : decode cX9_times 25 = .ok (.ifCond .ne 6, 3) := by decide +kernel
theorem dX9_times_28 : decode cX9_times 28 = .ok (.bipush (-2), 2) := by decide +kernel
theorem dX9_times_30 : decode cX9_times 30 = .ok (.ireturn, 1) := by decide +kernel
theorem dX9_times_31 : decode cX9_times 31 = .ok (.aload_n 0, 1) := by decide +kernel
theorem dX9_times_32 : decode cX9_times 32 = .ok (.getfield 151, 3) := by decide +kernel
theorem dX9_times_35 : decode cX9_times 35 = .ok (.bipush 6, 2) := by decide +kernel
theorem dX9_times_37 : decode cX9_times 37 = .ok (.if_icmp .ne 6, 3) := by decide +kernel
theorem dX9_times_40 : decode cX9_times 40 = .ok (.bipush (-3), 2) := by decide +kernel
theorem dX9_times_42 : decode cX9_times 42 = .ok (.ireturn, 1) := by decide +kernel
theorem dX9_times_43 : decode cX9_times 43 = .ok (.aload_n 0, 1) := by decide +kernel
theorem dX9_times_44 : decode cX9_times 44 = .ok (.getfield 32, 3) := by decide +kernel
theorem dX9_times_47 : decode cX9_times 47 = .ok (.iconst 2, 1) := by decide +kernel
theorem dX9_times_48 : decode cX9_times 48 = .ok (.aload_n 0, 1) := by decide +kernel
theorem dX9_times_49 : decode cX9_times 49 = .ok (.getfield 151, 3) := by decide +kernel
theorem dX9_times_52 : decode cX9_times 52 = .ok (.imul, 1) := by decide +kernel
theorem dX9_times_53 : decode cX9_times 53 = .ok (.iload_n 1, 1) := by decide +kernel
theorem dX9_times_54 : decode cX9_times 54 = .ok (.iastore, 1) := by decide +kernel
theorem dX9_times_55 : decode cX9_times 55 = .ok (.aload_n 0, 1) := by decide +kernel
theorem dX9_times_56 : decode cX9_times 56 = .ok (.getfield 32, 3) := by decide +kernel
theorem dX9_times_59 : decode cX9_times 59 = .ok (.iconst 2, 1) := by decide +kernel
theorem dX9_times_60 : decode cX9_times 60 = .ok (.aload_n 0, 1) := by decide +kernel
theorem dX9_times_61 : decode cX9_times 61 = .ok (.getfield 151, 3) := by decide +kernel
theorem dX9_times_64 : decode cX9_times 64 = .ok (.imul, 1) := by decide +kernel
theorem dX9_times_65 : decode cX9_times 65 = .ok (.iconst 1, 1) := by decide +kernel
theorem dX9_times_66 : decode cX9_times 66 = .ok (.iadd, 1) := by decide +kernel
theorem dX9_times_67 : decode cX9_times 67 = .ok (.iload_n 2, 1) := by decide +kernel
theorem dX9_times_68 : decode cX9_times 68 = .ok (.iastore, 1) := by decide +kernel
theorem dX9_times_69 : decode cX9_times 69 = .ok (.aload_n 0, 1) := by decide +kernel
theorem dX9_times_70 : decode cX9_times 70 = .ok (.dup, 1) := by decide +kernel
theorem dX9_times_71 : decode cX9_times 71 = .ok (.getfield 151, 3) := by decide +kernel
theorem dX9_times_74 : decode cX9_times 74 = .ok (.iconst 1, 1) := by decide +kernel
theorem dX9_times_75 : decode cX9_times 75 = .ok (.iadd, 1) := by decide +kernel
theorem dX9_times_76 : decode cX9_times 76 = .ok (.putfield 151, 3) := by decide +kernel
theorem dX9_times_79 : decode cX9_times 79 = .ok (.aload_n 0, 1) := by decide +kernel
theorem dX9_times_80 : decode cX9_times 80 = .ok (.getfield 151, 3) := by decide +kernel
theorem dX9_times_83 : decode cX9_times 83 = .ok (.ireturn, 1) := by decide +kernel
theorem dX9_forget_0 : decode cX9_forget 0 = .ok (.aload_n 0, 1) := by decide +kernel
theorem dX9_forget_1 : decode cX9_forget 1 = .ok (.getfield 151, 3) := by decide +kernel
theorem dX9_forget_4 : decode cX9_forget 4 = .ok (.istore_n 1, 1) := by decide +kernel
theorem dX9_forget_5 : decode cX9_forget 5 = .ok (.aload_n 0, 1) := by decide +kernel
theorem dX9_forget_6 : decode cX9_forget 6 = .ok (.iconst 0, 1) := by decide +kernel
theorem dX9_forget_7 : decode cX9_forget 7 = .ok (.putfield 151, 3) := by decide +kernel
theorem dX9_forget_10 : decode cX9_forget 10 = .ok (.iload_n 1, 1) := by decide +kernel
theorem dX9_forget_11 : decode cX9_forget 11 = .ok (.ireturn, 1) := by decide +kernel
theorem dX9_rate_0 : decode cX9_rate 0 = .ok (.iload_n 1, 1) := by decide +kernel
theorem dX9_rate_1 : decode cX9_rate 1 = .ok (.iconst 0, 1) := by decide +kernel
theorem dX9_rate_2 : decode cX9_rate 2 = .ok (.iconst 5, 1) := by decide +kernel
theorem dX9_rate_3 : decode cX9_rate 3 = .ok (.invokestatic 78, 3) := by decide +kernel
theorem dX9_rate_6 : decode cX9_rate 6 = .ok (.ifCond .eq 11, 3) := by decide +kernel
theorem dX9_rate_9 : decode cX9_rate 9 = .ok (.aload_n 0, 1) := by decide +kernel
theorem dX9_rate_10 : decode cX9_rate 10 = .ok (.iload_n 2, 1) := by decide +kernel
theorem dX9_rate_11 : decode cX9_rate 11 = .ok (.invokevirtual 175, 3) := by decide +kernel
theorem dX9_rate_14 : decode cX9_rate 14 = .ok (.ifCond .ne 6, 3) := by decide +kernel
theorem dX9_rate_17 : decode cX9_rate 17 = .ok (.ldc 219, 2) := by decide +kernel
theorem dX9_rate_19 : decode cX9_rate 19 = .ok (.ireturn, 1) := by decide +kernel
theorem dX9_rate_20 : decode cX9_rate 20 = .ok (.aload_n 0, 1) := by decide +kernel
theorem dX9_rate_21 : decode cX9_rate 21 = .ok (.invokevirtual 178, 3) := by decide +kernel
theorem dX9_rate_24 : decode cX9_rate 24 = .ok (.aload_n 0, 1) := by decide +kernel
theorem dX9_rate_25 : decode cX9_rate 25 = .ok (.getfield 13, 3) := by decide +kernel
theorem dX9_rate_28 : decode cX9_rate 28 = .ok (.iconst 2, 1) := by decide +kernel
theorem dX9_rate_29 : decode cX9_rate 29 = .ok (.iload_n 2, 1) := by decide +kernel
theorem dX9_rate_30 : decode cX9_rate 30 = .ok (.imul, 1) := by decide +kernel
theorem dX9_rate_31 : decode cX9_rate 31 = .ok (.iaload, 1) := by decide +kernel
theorem dX9_rate_32 : decode cX9_rate 32 = .ok (.istore_n 3, 1) := by decide +kernel
theorem dX9_rate_33 : decode cX9_rate 33 = .ok (.iload_n 3, 1) := by decide +kernel
theorem dX9_rate_34 : decode cX9_rate 34 = .ok (.aload_n 0, 1) := by decide +kernel
theorem dX9_rate_35 : decode cX9_rate 35 = .ok (.getfield 19, 3) := by decide +kernel
theorem dX9_rate_38 : decode cX9_rate 38 = .ok (.iconst 5, 1) := by decide +kernel
theorem dX9_rate_39 : decode cX9_rate 39 = .ok (.iload_n 2, 1) := by decide +kernel
theorem dX9_rate_40 : decode cX9_rate 40 = .ok (.iadd, 1) := by decide +kernel
theorem dX9_rate_41 : decode cX9_rate 41 = .ok (.iaload, 1) := by decide +kernel
theorem dX9_rate_42 : decode cX9_rate 42 = .ok (.iadd, 1) := by decide +kernel
theorem dX9_rate_43 : decode cX9_rate 43 = .ok (.istore 4, 2) := by decide +kernel
theorem dX9_rate_45 : decode cX9_rate 45 = .ok (.iload_n 3, 1) := by decide +kernel
theorem dX9_rate_46 : decode cX9_rate 46 = .ok (.aload_n 0, 1) := by decide +kernel
theorem dX9_rate_47 : decode cX9_rate 47 = .ok (.iload_n 2, 1) := by decide +kernel
theorem dX9_rate_48 : decode cX9_rate 48 = .ok (.iconst 0, 1) := by decide +kernel
theorem dX9_rate_49 : decode cX9_rate 49 = .ok (.invokevirtual 168, 3) := by decide +kernel
theorem dX9_rate_52 : decode cX9_rate 52 = .ok (.isub, 1) := by decide +kernel
theorem dX9_rate_53 : decode cX9_rate 53 = .ok (.istore 5, 2) := by decide +kernel
theorem dX9_rate_55 : decode cX9_rate 55 = .ok (.iload_n 1, 1) := by decide +kernel
theorem dX9_rate_56 : decode cX9_rate 56 = .ok (.tableswitch 122 1 5 #[36, 51, 66, 83, 100], 36) := by decide +kernel
theorem dX9_rate_92 : decode cX9_rate 92 = .ok (.aload_n 0, 1) := by decide +kernel
theorem dX9_rate_93 : decode cX9_rate 93 = .ok (.dup, 1) := by decide +kernel
theorem dX9_rate_94 : decode cX9_rate 94 = .ok (.getfield 220, 3) := by decide +kernel
theorem dX9_rate_97 : decode cX9_rate 97 = .ok (.ldc2_w 224, 3) := by decide +kernel
theorem dX9_rate_100 : decode cX9_rate 100 = .ok (.ladd, 1) := by decide +kernel
theorem dX9_rate_101 : decode cX9_rate 101 = .ok (.putfield 220, 3) := by decide +kernel
theorem dX9_rate_104 : decode cX9_rate 104 = .ok (.iload 4, 2) := by decide +kernel
theorem dX9_rate_106 : decode cX9_rate 106 = .ok (.ireturn, 1) := by decide +kernel
theorem dX9_rate_107 : decode cX9_rate 107 = .ok (.aload_n 0, 1) := by decide +kernel
theorem dX9_rate_108 : decode cX9_rate 108 = .ok (.dup, 1) := by decide +kernel
theorem dX9_rate_109 : decode cX9_rate 109 = .ok (.getfield 220, 3) := by decide +kernel
theorem dX9_rate_112 : decode cX9_rate 112 = .ok (.ldc2_w 226, 3) := by decide +kernel
theorem dX9_rate_115 : decode cX9_rate 115 = .ok (.ladd, 1) := by decide +kernel
theorem dX9_rate_116 : decode cX9_rate 116 = .ok (.putfield 220, 3) := by decide +kernel
theorem dX9_rate_119 : decode cX9_rate 119 = .ok (.iload 5, 2) := by decide +kernel
theorem dX9_rate_121 : decode cX9_rate 121 = .ok (.ireturn, 1) := by decide +kernel
theorem dX9_rate_122 : decode cX9_rate 122 = .ok (.aload_n 0, 1) := by decide +kernel
theorem dX9_rate_123 : decode cX9_rate 123 = .ok (.dup, 1) := by decide +kernel
theorem dX9_rate_124 : decode cX9_rate 124 = .ok (.getfield 220, 3) := by decide +kernel
theorem dX9_rate_127 : decode cX9_rate 127 = .ok (.ldc2_w 228, 3) := by decide +kernel
theorem dX9_rate_130 : decode cX9_rate 130 = .ok (.ladd, 1) := by decide +kernel
theorem dX9_rate_131 : decode cX9_rate 131 = .ok (.putfield 220, 3) := by decide +kernel
theorem dX9_rate_134 : decode cX9_rate 134 = .ok (.iconst 2, 1) := by decide +kernel
theorem dX9_rate_135 : decode cX9_rate 135 = .ok (.iload 4, 2) := by decide +kernel
theorem dX9_rate_137 : decode cX9_rate 137 = .ok (.imul, 1) := by decide +kernel
theorem dX9_rate_138 : decode cX9_rate 138 = .ok (.ireturn, 1) := by decide +kernel
theorem dX9_rate_139 : decode cX9_rate 139 = .ok (.aload_n 0, 1) := by decide +kernel
theorem dX9_rate_140 : decode cX9_rate 140 = .ok (.dup, 1) := by decide +kernel
theorem dX9_rate_141 : decode cX9_rate 141 = .ok (.getfield 220, 3) := by decide +kernel
theorem dX9_rate_144 : decode cX9_rate 144 = .ok (.ldc2_w 230, 3) := by decide +kernel
theorem dX9_rate_147 : decode cX9_rate 147 = .ok (.ladd, 1) := by decide +kernel
theorem dX9_rate_148 : decode cX9_rate 148 = .ok (.putfield 220, 3) := by decide +kernel
theorem dX9_rate_151 : decode cX9_rate 151 = .ok (.iload 5, 2) := by decide +kernel
theorem dX9_rate_153 : decode cX9_rate 153 = .ok (.iload_n 2, 1) := by decide +kernel
theorem dX9_rate_154 : decode cX9_rate 154 = .ok (.iadd, 1) := by decide +kernel
theorem dX9_rate_155 : decode cX9_rate 155 = .ok (.ireturn, 1) := by decide +kernel
theorem dX9_rate_156 : decode cX9_rate 156 = .ok (.aload_n 0, 1) := by decide +kernel
theorem dX9_rate_157 : decode cX9_rate 157 = .ok (.dup, 1) := by decide +kernel
theorem dX9_rate_158 : decode cX9_rate 158 = .ok (.getfield 220, 3) := by decide +kernel
theorem dX9_rate_161 : decode cX9_rate 161 = .ok (.ldc2_w 232, 3) := by decide +kernel
theorem dX9_rate_164 : decode cX9_rate 164 = .ok (.ladd, 1) := by decide +kernel
theorem dX9_rate_165 : decode cX9_rate 165 = .ok (.putfield 220, 3) := by decide +kernel
theorem dX9_rate_168 : decode cX9_rate 168 = .ok (.iload_n 3, 1) := by decide +kernel
theorem dX9_rate_169 : decode cX9_rate 169 = .ok (.aload_n 0, 1) := by decide +kernel
theorem dX9_rate_170 : decode cX9_rate 170 = .ok (.getfield 19, 3) := by decide +kernel
theorem dX9_rate_173 : decode cX9_rate 173 = .ok (.bipush 11, 2) := by decide +kernel
theorem dX9_rate_175 : decode cX9_rate 175 = .ok (.iaload, 1) := by decide +kernel
theorem dX9_rate_176 : decode cX9_rate 176 = .ok (.iadd, 1) := by decide +kernel
theorem dX9_rate_177 : decode cX9_rate 177 = .ok (.ireturn, 1) := by decide +kernel
theorem dX9_rate_178 : decode cX9_rate 178 = .ok (.aload_n 0, 1) := by decide +kernel
theorem dX9_rate_179 : decode cX9_rate 179 = .ok (.dup, 1) := by decide +kernel
theorem dX9_rate_180 : decode cX9_rate 180 = .ok (.getfield 220, 3) := by decide +kernel
theorem dX9_rate_183 : decode cX9_rate 183 = .ok (.lconst 1, 1) := by decide +kernel
theorem dX9_rate_184 : decode cX9_rate 184 = .ok (.ladd, 1) := by decide +kernel
theorem dX9_rate_185 : decode cX9_rate 185 = .ok (.putfield 220, 3) := by decide +kernel
theorem dX9_rate_188 : decode cX9_rate 188 = .ok (.iload_n 3, 1) := by decide +kernel
theorem dX9_rate_189 : decode cX9_rate 189 = .ok (.ireturn, 1) := by decide +kernel
theorem dX9_keep_0 : decode cX9_keep 0 = .ok (.iload_n 1, 1) := by decide +kernel
theorem dX9_keep_1 : decode cX9_keep 1 = .ok (.iconst 0, 1) := by decide +kernel
theorem dX9_keep_2 : decode cX9_keep 2 = .ok (.iconst 1, 1) := by decide +kernel
theorem dX9_keep_3 : decode cX9_keep 3 = .ok (.invokestatic 78, 3) := by decide +kernel
theorem dX9_keep_6 : decode cX9_keep 6 = .ok (.ifCond .ne 5, 3) := by decide +kernel
theorem dX9_keep_9 : decode cX9_keep 9 = .ok (.iconst (-1), 1) := by decide +kernel
theorem dX9_keep_10 : decode cX9_keep 10 = .ok (.ireturn, 1) := by decide +kernel
theorem dX9_keep_11 : decode cX9_keep 11 = .ok (.aload_n 0, 1) := by decide +kernel
theorem dX9_keep_12 : decode cX9_keep 12 = .ok (.getfield 25, 3) := by decide +kernel
theorem dX9_keep_15 : decode cX9_keep 15 = .ok (.bipush 17, 2) := by decide +kernel
theorem dX9_keep_17 : decode cX9_keep 17 = .ok (.iload_n 1, 1) := by decide +kernel
theorem dX9_keep_18 : decode cX9_keep 18 = .ok (.imul, 1) := by decide +kernel
theorem dX9_keep_19 : decode cX9_keep 19 = .ok (.aload_n 0, 1) := by decide +kernel
theorem dX9_keep_20 : decode cX9_keep 20 = .ok (.getfield 19, 3) := by decide +kernel
theorem dX9_keep_23 : decode cX9_keep 23 = .ok (.iconst 0, 1) := by decide +kernel
theorem dX9_keep_24 : decode cX9_keep 24 = .ok (.invokestatic 154, 3) := by decide +kernel
theorem dX9_keep_27 : decode cX9_keep 27 = .ok (.aload_n 0, 1) := by decide +kernel
theorem dX9_keep_28 : decode cX9_keep 28 = .ok (.getfield 28, 3) := by decide +kernel
theorem dX9_keep_31 : decode cX9_keep 31 = .ok (.iload_n 1, 1) := by decide +kernel
theorem dX9_keep_32 : decode cX9_keep 32 = .ok (.iconst 1, 1) := by decide +kernel
theorem dX9_keep_33 : decode cX9_keep 33 = .ok (.bastore, 1) := by decide +kernel
theorem dX9_keep_34 : decode cX9_keep 34 = .ok (.aload_n 0, 1) := by decide +kernel
theorem dX9_keep_35 : decode cX9_keep 35 = .ok (.getfield 19, 3) := by decide +kernel
theorem dX9_keep_38 : decode cX9_keep 38 = .ok (.bipush 11, 2) := by decide +kernel
theorem dX9_keep_40 : decode cX9_keep 40 = .ok (.iaload, 1) := by decide +kernel
theorem dX9_keep_41 : decode cX9_keep 41 = .ok (.ireturn, 1) := by decide +kernel
theorem dX9_back_0 : decode cX9_back 0 = .ok (.iload_n 1, 1) := by decide +kernel
theorem dX9_back_1 : decode cX9_back 1 = .ok (.iconst 0, 1) := by decide +kernel
theorem dX9_back_2 : decode cX9_back 2 = .ok (.iconst 1, 1) := by decide +kernel
theorem dX9_back_3 : decode cX9_back 3 = .ok (.invokestatic 78, 3) := by decide +kernel
theorem dX9_back_6 : decode cX9_back 6 = .ok (.ifCond .ne 5, 3) := by decide +kernel
theorem dX9_back_9 : decode cX9_back 9 = .ok (.iconst (-1), 1) := by decide +kernel
theorem dX9_back_10 : decode cX9_back 10 = .ok (.ireturn, 1) := by decide +kernel
theorem dX9_back_11 : decode cX9_back 11 = .ok (.aload_n 0, 1) := by decide +kernel
theorem dX9_back_12 : decode cX9_back 12 = .ok (.getfield 28, 3) := by decide +kernel
theorem dX9_back_15 : decode cX9_back 15 = .ok (.iload_n 1, 1) := by decide +kernel
theorem dX9_back_16 : decode cX9_back 16 = .ok (.baload, 1) := by decide +kernel
theorem dX9_back_17 : decode cX9_back 17 = .ok (.ifCond .ne 6, 3) := by decide +kernel
theorem dX9_back_20 : decode cX9_back 20 = .ok (.bipush (-2), 2) := by decide +kernel
theorem dX9_back_22 : decode cX9_back 22 = .ok (.ireturn, 1) := by decide +kernel
theorem dX9_back_23 : decode cX9_back 23 = .ok (.aload_n 0, 1) := by decide +kernel
theorem dX9_back_24 : decode cX9_back 24 = .ok (.getfield 19, 3) := by decide +kernel
theorem dX9_back_27 : decode cX9_back 27 = .ok (.iconst 0, 1) := by decide +kernel
theorem dX9_back_28 : decode cX9_back 28 = .ok (.aload_n 0, 1) := by decide +kernel
theorem dX9_back_29 : decode cX9_back 29 = .ok (.getfield 25, 3) := by decide +kernel
theorem dX9_back_32 : decode cX9_back 32 = .ok (.bipush 17, 2) := by decide +kernel
theorem dX9_back_34 : decode cX9_back 34 = .ok (.iload_n 1, 1) := by decide +kernel
theorem dX9_back_35 : decode cX9_back 35 = .ok (.imul, 1) := by decide +kernel
theorem dX9_back_36 : decode cX9_back 36 = .ok (.invokestatic 154, 3) := by decide +kernel
theorem dX9_back_39 : decode cX9_back 39 = .ok (.aload_n 0, 1) := by decide +kernel
theorem dX9_back_40 : decode cX9_back 40 = .ok (.iconst 0, 1) := by decide +kernel
theorem dX9_back_41 : decode cX9_back 41 = .ok (.putfield 148, 3) := by decide +kernel
theorem dX9_back_44 : decode cX9_back 44 = .ok (.aload_n 0, 1) := by decide +kernel
theorem dX9_back_45 : decode cX9_back 45 = .ok (.getfield 19, 3) := by decide +kernel
theorem dX9_back_48 : decode cX9_back 48 = .ok (.bipush 11, 2) := by decide +kernel
theorem dX9_back_50 : decode cX9_back 50 = .ok (.iaload, 1) := by decide +kernel
theorem dX9_back_51 : decode cX9_back 51 = .ok (.ireturn, 1) := by decide +kernel
theorem dX9_count_0 : decode cX9_count 0 = .ok (.iload_n 1, 1) := by decide +kernel
theorem dX9_count_1 : decode cX9_count 1 = .ok (.tableswitch 51 0 3 #[31, 36, 41, 46], 31) := by decide +kernel
theorem dX9_count_32 : decode cX9_count 32 = .ok (.aload_n 0, 1) := by decide +kernel
theorem dX9_count_33 : decode cX9_count 33 = .ok (.getfield 81, 3) := by decide +kernel
theorem dX9_count_36 : decode cX9_count 36 = .ok (.ireturn, 1) := by decide +kernel
theorem dX9_count_37 : decode cX9_count 37 = .ok (.aload_n 0, 1) := by decide +kernel
theorem dX9_count_38 : decode cX9_count 38 = .ok (.getfield 74, 3) := by decide +kernel
theorem dX9_count_41 : decode cX9_count 41 = .ok (.ireturn, 1) := by decide +kernel
theorem dX9_count_42 : decode cX9_count 42 = .ok (.aload_n 0, 1) := by decide +kernel
theorem dX9_count_43 : decode cX9_count 43 = .ok (.getfield 151, 3) := by decide +kernel
theorem dX9_count_46 : decode cX9_count 46 = .ok (.ireturn, 1) := by decide +kernel
theorem dX9_count_47 : decode cX9_count 47 = .ok (.aload_n 0, 1) := by decide +kernel
theorem dX9_count_48 : decode cX9_count 48 = .ok (.getfield 84, 3) := by decide +kernel
theorem dX9_count_51 : decode cX9_count 51 = .ok (.ireturn, 1) := by decide +kernel
theorem dX9_count_52 : decode cX9_count 52 = .ok (.iconst (-1), 1) := by decide +kernel
theorem dX9_count_53 : decode cX9_count 53 = .ok (.ireturn, 1) := by decide +kernel
theorem dX9_trace_0 : decode cX9_trace 0 = .ok (.aload_n 0, 1) := by decide +kernel
theorem dX9_trace_1 : decode cX9_trace 1 = .ok (.getfield 220, 3) := by decide +kernel
theorem dX9_trace_4 : decode cX9_trace 4 = .ok (.lreturn, 1) := by decide +kernel
