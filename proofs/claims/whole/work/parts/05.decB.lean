theorem dX1_init_0 : decode cX1_init 0 = .ok (.aload_n 0, 1) := by decide +kernel
theorem dX1_init_1 : decode cX1_init 1 = .ok (.invokespecial 3, 3) := by decide +kernel
theorem dX1_init_4 : decode cX1_init 4 = .ok (.aload_n 0, 1) := by decide +kernel
theorem dX1_init_5 : decode cX1_init 5 = .ok (.new 9, 3) := by decide +kernel
theorem dX1_init_8 : decode cX1_init 8 = .ok (.dup, 1) := by decide +kernel
theorem dX1_init_9 : decode cX1_init 9 = .ok (.invokespecial 11, 3) := by decide +kernel
theorem dX1_init_12 : decode cX1_init 12 = .ok (.putfield 12, 3) := by decide +kernel
theorem dX1_init_15 : decode cX1_init 15 = .ok (.aload_n 0, 1) := by decide +kernel
theorem dX1_init_16 : decode cX1_init 16 = .ok (.new 18, 3) := by decide +kernel
theorem dX1_init_19 : decode cX1_init 19 = .ok (.dup, 1) := by decide +kernel
theorem dX1_init_20 : decode cX1_init 20 = .ok (.invokespecial 20, 3) := by decide +kernel
theorem dX1_init_23 : decode cX1_init 23 = .ok (.putfield 21, 3) := by decide +kernel
theorem dX1_init_26 : decode cX1_init 26 = .ok (.aload_n 0, 1) := by decide +kernel
theorem dX1_init_27 : decode cX1_init 27 = .ok (.new 18, 3) := by decide +kernel
theorem dX1_init_30 : decode cX1_init 30 = .ok (.dup, 1) := by decide +kernel
theorem dX1_init_31 : decode cX1_init 31 = .ok (.invokespecial 20, 3) := by decide +kernel
theorem dX1_init_34 : decode cX1_init 34 = .ok (.putfield 25, 3) := by decide +kernel
theorem dX1_init_37 : decode cX1_init 37 = .ok (.aload_n 0, 1) := by decide +kernel
theorem dX1_init_38 : decode cX1_init 38 = .ok (.new 18, 3) := by decide +kernel
theorem dX1_init_41 : decode cX1_init 41 = .ok (.dup, 1) := by decide +kernel
theorem dX1_init_42 : decode cX1_init 42 = .ok (.invokespecial 20, 3) := by decide +kernel
theorem dX1_init_45 : decode cX1_init 45 = .ok (.putfield 28, 3) := by decide +kernel
theorem dX1_init_48 : decode cX1_init 48 = .ok (.aload_n 0, 1) := by decide +kernel
theorem dX1_init_49 : decode cX1_init 49 = .ok (.new 18, 3) := by decide +kernel
theorem dX1_init_52 : decode cX1_init 52 = .ok (.dup, 1) := by decide +kernel
theorem dX1_init_53 : decode cX1_init 53 = .ok (.invokespecial 20, 3) := by decide +kernel
theorem dX1_init_56 : decode cX1_init 56 = .ok (.putfield 31, 3) := by decide +kernel
theorem dX1_init_59 : decode cX1_init 59 = .ok (.aload_n 0, 1) := by decide +kernel
theorem dX1_init_60 : decode cX1_init 60 = .ok (.new 18, 3) := by decide +kernel
theorem dX1_init_63 : decode cX1_init 63 = .ok (.dup, 1) := by decide +kernel
theorem dX1_init_64 : decode cX1_init 64 = .ok (.invokespecial 20, 3) := by decide +kernel
theorem dX1_init_67 : decode cX1_init 67 = .ok (.putfield 34, 3) := by decide +kernel
theorem dX1_init_70 : decode cX1_init 70 = .ok (.aload_n 0, 1) := by decide +kernel
theorem dX1_init_71 : decode cX1_init 71 = .ok (.new 18, 3) := by decide +kernel
theorem dX1_init_74 : decode cX1_init 74 = .ok (.dup, 1) := by decide +kernel
theorem dX1_init_75 : decode cX1_init 75 = .ok (.invokespecial 20, 3) := by decide +kernel
theorem dX1_init_78 : decode cX1_init 78 = .ok (.putfield 37, 3) := by decide +kernel
theorem dX1_init_81 : decode cX1_init 81 = .ok (.aload_n 0, 1) := by decide +kernel
theorem dX1_init_82 : decode cX1_init 82 = .ok (.new 18, 3) := by decide +kernel
theorem dX1_init_85 : decode cX1_init 85 = .ok (.dup, 1) := by decide +kernel
theorem dX1_init_86 : decode cX1_init 86 = .ok (.invokespecial 20, 3) := by decide +kernel
theorem dX1_init_89 : decode cX1_init 89 = .ok (.putfield 40, 3) := by decide +kernel
theorem dX1_init_92 : decode cX1_init 92 = .ok (.aload_n 0, 1) := by decide +kernel
theorem dX1_init_93 : decode cX1_init 93 = .ok (.new 18, 3) := by decide +kernel
theorem dX1_init_96 : decode cX1_init 96 = .ok (.dup, 1) := by decide +kernel
theorem dX1_init_97 : decode cX1_init 97 = .ok (.invokespecial 20, 3) := by decide +kernel
theorem dX1_init_100 : decode cX1_init 100 = .ok (.putfield 43, 3) := by decide +kernel
theorem dX1_init_103 : decode cX1_init 103 = .ok (.aload_n 0, 1) := by decide +kernel
theorem dX1_init_104 : decode cX1_init 104 = .ok (.iconst 0, 1) := by decide +kernel
theorem dX1_init_105 : decode cX1_init 105 = .ok (.putfield 46, 3) := by decide +kernel
theorem dX1_init_108 : decode cX1_init 108 = .ok (.aload_n 0, 1) := by decide +kernel
theorem dX1_init_109 : decode cX1_init 109 = .ok (.iconst 0, 1) := by decide +kernel
theorem dX1_init_110 : decode cX1_init 110 = .ok (.putfield 50, 3) := by decide +kernel
theorem dX1_init_113 : decode cX1_init 113 = .ok (.aload_n 0, 1) := by decide +kernel
theorem dX1_init_114 : decode cX1_init 114 = .ok (.iconst 0, 1) := by decide +kernel
theorem dX1_init_115 : decode cX1_init 115 = .ok (.putfield 53, 3) := by decide +kernel
theorem dX1_init_118 : decode cX1_init 118 = .ok (.aload_n 0, 1) := by decide +kernel
theorem dX1_init_119 : decode cX1_init 119 = .ok (.iconst (-1), 1) := by decide +kernel
theorem dX1_init_120 : decode cX1_init 120 = .ok (.putfield 56, 3) := by decide +kernel
theorem dX1_init_123 : decode cX1_init 123 = .ok (.aload_n 0, 1) := by decide +kernel
theorem dX1_init_124 : decode cX1_init 124 = .ok (.iconst 0, 1) := by decide +kernel
theorem dX1_init_125 : decode cX1_init 125 = .ok (.putfield 59, 3) := by decide +kernel
theorem dX1_init_128 : decode cX1_init 128 = .ok (.aload_n 0, 1) := by decide +kernel
theorem dX1_init_129 : decode cX1_init 129 = .ok (.iconst 0, 1) := by decide +kernel
theorem dX1_init_130 : decode cX1_init 130 = .ok (.putfield 62, 3) := by decide +kernel
theorem dX1_init_133 : decode cX1_init 133 = .ok (.aload_n 0, 1) := by decide +kernel
theorem dX1_init_134 : decode cX1_init 134 = .ok (.iconst (-1), 1) := by decide +kernel
theorem dX1_init_135 : decode cX1_init 135 = .ok (.putfield 66, 3) := by decide +kernel
theorem dX1_init_138 : decode cX1_init 138 = .ok (.aload_n 0, 1) := by decide +kernel
theorem dX1_init_139 : decode cX1_init 139 = .ok (.iconst 0, 1) := by decide +kernel
theorem dX1_init_140 : decode cX1_init 140 = .ok (.putfield 69, 3) := by decide +kernel
theorem dX1_init_143 : decode cX1_init 143 = .ok (.aload_n 0, 1) := by decide +kernel
theorem dX1_init_144 : decode cX1_init 144 = .ok (.iconst 0, 1) := by decide +kernel
theorem dX1_init_145 : decode cX1_init 145 = .ok (.putfield 72, 3) := by decide +kernel
theorem dX1_init_148 : decode cX1_init 148 = .ok (.aload_n 0, 1) := by decide +kernel
theorem dX1_init_149 : decode cX1_init 149 = .ok (.iconst 0, 1) := by decide +kernel
theorem dX1_init_150 : decode cX1_init 150 = .ok (.putfield 75, 3) := by decide +kernel
theorem dX1_init_153 : decode cX1_init 153 = .ok (.return_, 1) := by decide +kernel
theorem dX1_bar_0 : decode cX1_bar 0 = .ok (.aload_n 0, 1) := by decide +kernel
theorem dX1_bar_1 : decode cX1_bar 1 = .ok (.getfield 50, 3) := by decide +kernel
theorem dX1_bar_4 : decode cX1_bar 4 = .ok (.ireturn, 1) := by decide +kernel
theorem dX1_beat_0 : decode cX1_beat 0 = .ok (.aload_n 0, 1) := by decide +kernel
theorem dX1_beat_1 : decode cX1_beat 1 = .ok (.getfield 53, 3) := by decide +kernel
theorem dX1_beat_4 : decode cX1_beat 4 = .ok (.ireturn, 1) := by decide +kernel
theorem dX1_foundRule_0 : decode cX1_foundRule 0 = .ok (.aload_n 0, 1) := by decide +kernel
theorem dX1_foundRule_1 : decode cX1_foundRule 1 = .ok (.getfield 72, 3) := by decide +kernel
theorem dX1_foundRule_4 : decode cX1_foundRule 4 = .ok (.ireturn, 1) := by decide +kernel
theorem dX1_foundDetail_0 : decode cX1_foundDetail 0 = .ok (.aload_n 0, 1) := by decide +kernel
theorem dX1_foundDetail_1 : decode cX1_foundDetail 1 = .ok (.getfield 75, 3) := by decide +kernel
theorem dX1_foundDetail_4 : decode cX1_foundDetail 4 = .ok (.ireturn, 1) := by decide +kernel
theorem dX1_harmonyAt_0 : decode cX1_harmonyAt 0 = .ok (.aload_n 0, 1) := by decide +kernel
theorem dX1_harmonyAt_1 : decode cX1_harmonyAt 1 = .ok (.aload_n 0, 1) := by decide +kernel
theorem dX1_harmonyAt_2 : decode cX1_harmonyAt 2 = .ok (.getfield 21, 3) := by decide +kernel
theorem dX1_harmonyAt_5 : decode cX1_harmonyAt 5 = .ok (.iload_n 1, 1) := by decide +kernel
theorem dX1_harmonyAt_6 : decode cX1_harmonyAt 6 = .ok (.invokevirtual 78, 3) := by decide +kernel
theorem dX1_harmonyAt_9 : decode cX1_harmonyAt 9 = .ok (.aload_n 0, 1) := by decide +kernel
theorem dX1_harmonyAt_10 : decode cX1_harmonyAt 10 = .ok (.getfield 21, 3) := by decide +kernel
theorem dX1_harmonyAt_13 : decode cX1_harmonyAt 13 = .ok (.areturn, 1) := by decide +kernel
theorem dX1_measureHarmony_0 : decode cX1_measureHarmony 0 = .ok (.aload_n 1, 1) := by decide +kernel
theorem dX1_measureHarmony_1 : decode cX1_measureHarmony 1 = .ok (.aload_n 0, 1) := by decide +kernel
theorem dX1_measureHarmony_2 : decode cX1_measureHarmony 2 = .ok (.getfield 12, 3) := by decide +kernel
theorem dX1_measureHarmony_5 : decode cX1_measureHarmony 5 = .ok (.getfield 82, 3) := by decide +kernel
theorem dX1_measureHarmony_8 : decode cX1_measureHarmony 8 = .ok (.aload_n 0, 1) := by decide +kernel
theorem dX1_measureHarmony_9 : decode cX1_measureHarmony 9 = .ok (.getfield 12, 3) := by decide +kernel
theorem dX1_measureHarmony_12 : decode cX1_measureHarmony 12 = .ok (.iload_n 2, 1) := by decide +kernel
theorem dX1_measureHarmony_13 : decode cX1_measureHarmony 13 = .ok (.invokevirtual 86, 3) := by decide +kernel
theorem dX1_measureHarmony_16 : decode cX1_measureHarmony 16 = .ok (.invokevirtual 90, 3) := by decide +kernel
theorem dX1_measureHarmony_19 : decode cX1_measureHarmony 19 = .ok (.aload_n 0, 1) := by decide +kernel
theorem dX1_measureHarmony_20 : decode cX1_measureHarmony 20 = .ok (.getfield 12, 3) := by decide +kernel
theorem dX1_measureHarmony_23 : decode cX1_measureHarmony 23 = .ok (.getfield 95, 3) := by decide +kernel
theorem dX1_measureHarmony_26 : decode cX1_measureHarmony 26 = .ok (.iload_n 2, 1) := by decide +kernel
theorem dX1_measureHarmony_27 : decode cX1_measureHarmony 27 = .ok (.invokevirtual 90, 3) := by decide +kernel
theorem dX1_measureHarmony_30 : decode cX1_measureHarmony 30 = .ok (.invokevirtual 98, 3) := by decide +kernel
theorem dX1_measureHarmony_33 : decode cX1_measureHarmony 33 = .ok (.return_, 1) := by decide +kernel
theorem dX1_motionFrom_0 : decode cX1_motionFrom 0 = .ok (.aload_n 0, 1) := by decide +kernel
theorem dX1_motionFrom_1 : decode cX1_motionFrom 1 = .ok (.getfield 12, 3) := by decide +kernel
theorem dX1_motionFrom_4 : decode cX1_motionFrom 4 = .ok (.getfield 95, 3) := by decide +kernel
theorem dX1_motionFrom_7 : decode cX1_motionFrom 7 = .ok (.aload_n 0, 1) := by decide +kernel
theorem dX1_motionFrom_8 : decode cX1_motionFrom 8 = .ok (.getfield 12, 3) := by decide +kernel
theorem dX1_motionFrom_11 : decode cX1_motionFrom 11 = .ok (.iload_n 1, 1) := by decide +kernel
theorem dX1_motionFrom_12 : decode cX1_motionFrom 12 = .ok (.invokevirtual 102, 3) := by decide +kernel
theorem dX1_motionFrom_15 : decode cX1_motionFrom 15 = .ok (.invokevirtual 90, 3) := by decide +kernel
theorem dX1_motionFrom_18 : decode cX1_motionFrom 18 = .ok (.istore_n 2, 1) := by decide +kernel
theorem dX1_motionFrom_19 : decode cX1_motionFrom 19 = .ok (.aload_n 0, 1) := by decide +kernel
theorem dX1_motionFrom_20 : decode cX1_motionFrom 20 = .ok (.getfield 34, 3) := by decide +kernel
theorem dX1_motionFrom_23 : decode cX1_motionFrom 23 = .ok (.iload_n 2, 1) := by decide +kernel
theorem dX1_motionFrom_24 : decode cX1_motionFrom 24 = .ok (.aload_n 0, 1) := by decide +kernel
theorem dX1_motionFrom_25 : decode cX1_motionFrom 25 = .ok (.getfield 12, 3) := by decide +kernel
theorem dX1_motionFrom_28 : decode cX1_motionFrom 28 = .ok (.getfield 95, 3) := by decide +kernel
theorem dX1_motionFrom_31 : decode cX1_motionFrom 31 = .ok (.aload_n 0, 1) := by decide +kernel
theorem dX1_motionFrom_32 : decode cX1_motionFrom 32 = .ok (.getfield 12, 3) := by decide +kernel
theorem dX1_motionFrom_35 : decode cX1_motionFrom 35 = .ok (.iload_n 1, 1) := by decide +kernel
theorem dX1_motionFrom_36 : decode cX1_motionFrom 36 = .ok (.iconst 1, 1) := by decide +kernel
theorem dX1_motionFrom_37 : decode cX1_motionFrom 37 = .ok (.iadd, 1) := by decide +kernel
theorem dX1_motionFrom_38 : decode cX1_motionFrom 38 = .ok (.invokevirtual 102, 3) := by decide +kernel
theorem dX1_motionFrom_41 : decode cX1_motionFrom 41 = .ok (.invokevirtual 90, 3) := by decide +kernel
theorem dX1_motionFrom_44 : decode cX1_motionFrom 44 = .ok (.invokevirtual 98, 3) := by decide +kernel
theorem dX1_motionFrom_47 : decode cX1_motionFrom 47 = .ok (.aload_n 0, 1) := by decide +kernel
theorem dX1_motionFrom_48 : decode cX1_motionFrom 48 = .ok (.getfield 43, 3) := by decide +kernel
theorem dX1_motionFrom_51 : decode cX1_motionFrom 51 = .ok (.aload_n 0, 1) := by decide +kernel
theorem dX1_motionFrom_52 : decode cX1_motionFrom 52 = .ok (.getfield 12, 3) := by decide +kernel
theorem dX1_motionFrom_55 : decode cX1_motionFrom 55 = .ok (.getfield 82, 3) := by decide +kernel
theorem dX1_motionFrom_58 : decode cX1_motionFrom 58 = .ok (.iload_n 1, 1) := by decide +kernel
theorem dX1_motionFrom_59 : decode cX1_motionFrom 59 = .ok (.invokevirtual 90, 3) := by decide +kernel
theorem dX1_motionFrom_62 : decode cX1_motionFrom 62 = .ok (.aload_n 0, 1) := by decide +kernel
theorem dX1_motionFrom_63 : decode cX1_motionFrom 63 = .ok (.getfield 12, 3) := by decide +kernel
theorem dX1_motionFrom_66 : decode cX1_motionFrom 66 = .ok (.getfield 82, 3) := by decide +kernel
theorem dX1_motionFrom_69 : decode cX1_motionFrom 69 = .ok (.iload_n 1, 1) := by decide +kernel
theorem dX1_motionFrom_70 : decode cX1_motionFrom 70 = .ok (.iconst 1, 1) := by decide +kernel
theorem dX1_motionFrom_71 : decode cX1_motionFrom 71 = .ok (.iadd, 1) := by decide +kernel
theorem dX1_motionFrom_72 : decode cX1_motionFrom 72 = .ok (.invokevirtual 90, 3) := by decide +kernel
theorem dX1_motionFrom_75 : decode cX1_motionFrom 75 = .ok (.invokevirtual 98, 3) := by decide +kernel
theorem dX1_motionFrom_78 : decode cX1_motionFrom 78 = .ok (.aload_n 0, 1) := by decide +kernel
theorem dX1_motionFrom_79 : decode cX1_motionFrom 79 = .ok (.getfield 34, 3) := by decide +kernel
theorem dX1_motionFrom_82 : decode cX1_motionFrom 82 = .ok (.invokevirtual 105, 3) := by decide +kernel
theorem dX1_motionFrom_85 : decode cX1_motionFrom 85 = .ok (.ifCond .eq 13, 3) := by decide +kernel
theorem dX1_motionFrom_88 : decode cX1_motionFrom 88 = .ok (.aload_n 0, 1) := by decide +kernel
theorem dX1_motionFrom_89 : decode cX1_motionFrom 89 = .ok (.getfield 43, 3) := by decide +kernel
theorem dX1_motionFrom_92 : decode cX1_motionFrom 92 = .ok (.invokevirtual 105, 3) := by decide +kernel
theorem dX1_motionFrom_95 : decode cX1_motionFrom 95 = .ok (.ifCond .ne 5, 3) := by decide +kernel
theorem dX1_motionFrom_98 : decode cX1_motionFrom 98 = .ok (.iconst (-1), 1) := by decide +kernel
theorem dX1_motionFrom_99 : decode cX1_motionFrom 99 = .ok (.ireturn, 1) := by decide +kernel
theorem dX1_motionFrom_100 : decode cX1_motionFrom 100 = .ok (.aload_n 0, 1) := by decide +kernel
theorem dX1_motionFrom_101 : decode cX1_motionFrom 101 = .ok (.getfield 34, 3) := by decide +kernel
theorem dX1_motionFrom_104 : decode cX1_motionFrom 104 = .ok (.invokevirtual 109, 3) := by decide +kernel
theorem dX1_motionFrom_107 : decode cX1_motionFrom 107 = .ok (.ifCond .eq 13, 3) := by decide +kernel
theorem dX1_motionFrom_110 : decode cX1_motionFrom 110 = .ok (.aload_n 0, 1) := by decide +kernel
theorem dX1_motionFrom_111 : decode cX1_motionFrom 111 = .ok (.getfield 43, 3) := by decide +kernel
theorem dX1_motionFrom_114 : decode cX1_motionFrom 114 = .ok (.invokevirtual 109, 3) := by decide +kernel
theorem dX1_motionFrom_117 : decode cX1_motionFrom 117 = .ok (.ifCond .ne 26, 3) := by decide +kernel
theorem dX1_motionFrom_120 : decode cX1_motionFrom 120 = .ok (.aload_n 0, 1) := by decide +kernel
theorem dX1_motionFrom_121 : decode cX1_motionFrom 121 = .ok (.getfield 34, 3) := by decide +kernel
theorem dX1_motionFrom_124 : decode cX1_motionFrom 124 = .ok (.invokevirtual 109, 3) := by decide +kernel
theorem dX1_motionFrom_127 : decode cX1_motionFrom 127 = .ok (.aload_n 0, 1) := by decide +kernel
theorem dX1_motionFrom_128 : decode cX1_motionFrom 128 = .ok (.getfield 43, 3) := by decide +kernel
theorem dX1_motionFrom_131 : decode cX1_motionFrom 131 = .ok (.invokevirtual 109, 3) := by decide +kernel
theorem dX1_motionFrom_134 : decode cX1_motionFrom 134 = .ok (.if_icmp .ne 7, 3) := by decide +kernel
theorem dX1_motionFrom_137 : decode cX1_motionFrom 137 = .ok (.iconst 0, 1) := by decide +kernel
theorem dX1_motionFrom_138 : decode cX1_motionFrom 138 = .ok (.goto 4, 3) := by decide +kernel
theorem dX1_motionFrom_141 : decode cX1_motionFrom 141 = .ok (.iconst 1, 1) := by decide +kernel
theorem dX1_motionFrom_142 : decode cX1_motionFrom 142 = .ok (.ireturn, 1) := by decide +kernel
theorem dX1_motionFrom_143 : decode cX1_motionFrom 143 = .ok (.aload_n 0, 1) := by decide +kernel
theorem dX1_motionFrom_144 : decode cX1_motionFrom 144 = .ok (.getfield 34, 3) := by decide +kernel
theorem dX1_motionFrom_147 : decode cX1_motionFrom 147 = .ok (.aload_n 0, 1) := by decide +kernel
theorem dX1_motionFrom_148 : decode cX1_motionFrom 148 = .ok (.getfield 43, 3) := by decide +kernel
theorem dX1_motionFrom_151 : decode cX1_motionFrom 151 = .ok (.invokevirtual 113, 3) := by decide +kernel
theorem dX1_motionFrom_154 : decode cX1_motionFrom 154 = .ok (.ifCond .eq 5, 3) := by decide +kernel
theorem dX1_motionFrom_157 : decode cX1_motionFrom 157 = .ok (.iconst 2, 1) := by decide +kernel
theorem dX1_motionFrom_158 : decode cX1_motionFrom 158 = .ok (.ireturn, 1) := by decide +kernel
theorem dX1_motionFrom_159 : decode cX1_motionFrom 159 = .ok (.aload_n 0, 1) := by decide +kernel
theorem dX1_motionFrom_160 : decode cX1_motionFrom 160 = .ok (.getfield 34, 3) := by decide +kernel
theorem dX1_motionFrom_163 : decode cX1_motionFrom 163 = .ok (.invokevirtual 117, 3) := by decide +kernel
theorem dX1_motionFrom_166 : decode cX1_motionFrom 166 = .ok (.aload_n 0, 1) := by decide +kernel
theorem dX1_motionFrom_167 : decode cX1_motionFrom 167 = .ok (.getfield 43, 3) := by decide +kernel
theorem dX1_motionFrom_170 : decode cX1_motionFrom 170 = .ok (.invokevirtual 117, 3) := by decide +kernel
theorem dX1_motionFrom_173 : decode cX1_motionFrom 173 = .ok (.if_icmp .ne 7, 3) := by decide +kernel
theorem dX1_motionFrom_176 : decode cX1_motionFrom 176 = .ok (.iconst 4, 1) := by decide +kernel
theorem dX1_motionFrom_177 : decode cX1_motionFrom 177 = .ok (.goto 4, 3) := by decide +kernel
theorem dX1_motionFrom_180 : decode cX1_motionFrom 180 = .ok (.iconst 3, 1) := by decide +kernel
theorem dX1_motionFrom_181 : decode cX1_motionFrom 181 = .ok (.ireturn, 1) := by decide +kernel
theorem dX1_motionsOf_0 : decode cX1_motionsOf 0 = .ok (.iconst 0, 1) := by decide +kernel
theorem dX1_motionsOf_1 : decode cX1_motionsOf 1 = .ok (.istore_n 2, 1) := by decide +kernel
theorem dX1_motionsOf_2 : decode cX1_motionsOf 2 = .ok (.iconst 0, 1) := by decide +kernel
theorem dX1_motionsOf_3 : decode cX1_motionsOf 3 = .ok (.istore_n 3, 1) := by decide +kernel
theorem dX1_motionsOf_4 : decode cX1_motionsOf 4 = .ok (.iload_n 3, 1) := by decide +kernel
theorem dX1_motionsOf_5 : decode cX1_motionsOf 5 = .ok (.aload_n 0, 1) := by decide +kernel
theorem dX1_motionsOf_6 : decode cX1_motionsOf 6 = .ok (.getfield 12, 3) := by decide +kernel
theorem dX1_motionsOf_9 : decode cX1_motionsOf 9 = .ok (.getfield 82, 3) := by decide +kernel
theorem dX1_motionsOf_12 : decode cX1_motionsOf 12 = .ok (.invokevirtual 120, 3) := by decide +kernel
theorem dX1_motionsOf_15 : decode cX1_motionsOf 15 = .ok (.iconst 1, 1) := by decide +kernel
theorem dX1_motionsOf_16 : decode cX1_motionsOf 16 = .ok (.isub, 1) := by decide +kernel
theorem dX1_motionsOf_17 : decode cX1_motionsOf 17 = .ok (.if_icmp .ge 36, 3) := by decide +kernel
theorem dX1_motionsOf_20 : decode cX1_motionsOf 20 = .ok (.aload_n 0, 1) := by decide +kernel
theorem dX1_motionsOf_21 : decode cX1_motionsOf 21 = .ok (.iload_n 3, 1) := by decide +kernel
theorem dX1_motionsOf_22 : decode cX1_motionsOf 22 = .ok (.invokevirtual 123, 3) := by decide +kernel
theorem dX1_motionsOf_25 : decode cX1_motionsOf 25 = .ok (.istore 4, 2) := by decide +kernel
theorem dX1_motionsOf_27 : decode cX1_motionsOf 27 = .ok (.iload 4, 2) := by decide +kernel
theorem dX1_motionsOf_29 : decode cX1_motionsOf 29 = .ok (.iconst (-1), 1) := by decide +kernel
theorem dX1_motionsOf_30 : decode cX1_motionsOf 30 = .ok (.if_icmp .eq 17, 3) := by decide +kernel
theorem dX1_motionsOf_33 : decode cX1_motionsOf 33 = .ok (.iload_n 1, 1) := by decide +kernel
theorem dX1_motionsOf_34 : decode cX1_motionsOf 34 = .ok (.iconst (-1), 1) := by decide +kernel
theorem dX1_motionsOf_35 : decode cX1_motionsOf 35 = .ok (.if_icmp .eq 9, 3) := by decide +kernel
theorem dX1_motionsOf_38 : decode cX1_motionsOf 38 = .ok (.iload_n 1, 1) := by decide +kernel
theorem dX1_motionsOf_39 : decode cX1_motionsOf 39 = .ok (.iload 4, 2) := by decide +kernel
theorem dX1_motionsOf_41 : decode cX1_motionsOf 41 = .ok (.if_icmp .ne 6, 3) := by decide +kernel
theorem dX1_motionsOf_44 : decode cX1_motionsOf 44 = .ok (.iinc 2 1, 3) := by decide +kernel
theorem dX1_motionsOf_47 : decode cX1_motionsOf 47 = .ok (.iinc 3 1, 3) := by decide +kernel
theorem dX1_motionsOf_50 : decode cX1_motionsOf 50 = .ok (.goto (-46), 3) := by decide +kernel
theorem dX1_motionsOf_53 : decode cX1_motionsOf 53 = .ok (.iload_n 2, 1) := by decide +kernel
theorem dX1_motionsOf_54 : decode cX1_motionsOf 54 = .ok (.ireturn, 1) := by decide +kernel
theorem dX1_wholeCost_0 : decode cX1_wholeCost 0 = .ok (.iconst 0, 1) := by decide +kernel
theorem dX1_wholeCost_1 : decode cX1_wholeCost 1 = .ok (.istore_n 1, 1) := by decide +kernel
theorem dX1_wholeCost_2 : decode cX1_wholeCost 2 = .ok (.aload_n 0, 1) := by decide +kernel
theorem dX1_wholeCost_3 : decode cX1_wholeCost 3 = .ok (.invokevirtual 126, 3) := by decide +kernel
theorem dX1_wholeCost_6 : decode cX1_wholeCost 6 = .ok (.iconst 0, 1) := by decide +kernel
theorem dX1_wholeCost_7 : decode cX1_wholeCost 7 = .ok (.istore_n 2, 1) := by decide +kernel
theorem dX1_wholeCost_8 : decode cX1_wholeCost 8 = .ok (.iload_n 2, 1) := by decide +kernel
theorem dX1_wholeCost_9 : decode cX1_wholeCost 9 = .ok (.aload_n 0, 1) := by decide +kernel
theorem dX1_wholeCost_10 : decode cX1_wholeCost 10 = .ok (.getfield 12, 3) := by decide +kernel
theorem dX1_wholeCost_13 : decode cX1_wholeCost 13 = .ok (.getfield 95, 3) := by decide +kernel
theorem dX1_wholeCost_16 : decode cX1_wholeCost 16 = .ok (.invokevirtual 120, 3) := by decide +kernel
theorem dX1_wholeCost_19 : decode cX1_wholeCost 19 = .ok (.if_icmp .ge 48, 3) := by decide +kernel
theorem dX1_wholeCost_22 : decode cX1_wholeCost 22 = .ok (.aload_n 0, 1) := by decide +kernel
theorem dX1_wholeCost_23 : decode cX1_wholeCost 23 = .ok (.iload_n 2, 1) := by decide +kernel
theorem dX1_wholeCost_24 : decode cX1_wholeCost 24 = .ok (.invokevirtual 129, 3) := by decide +kernel
theorem dX1_wholeCost_27 : decode cX1_wholeCost 27 = .ok (.iconst 1, 1) := by decide +kernel
theorem dX1_wholeCost_28 : decode cX1_wholeCost 28 = .ok (.istore_n 3, 1) := by decide +kernel
theorem dX1_wholeCost_29 : decode cX1_wholeCost 29 = .ok (.iload_n 3, 1) := by decide +kernel
theorem dX1_wholeCost_30 : decode cX1_wholeCost 30 = .ok (.bipush 16, 2) := by decide +kernel
theorem dX1_wholeCost_32 : decode cX1_wholeCost 32 = .ok (.if_icmp .gt 29, 3) := by decide +kernel
theorem dX1_wholeCost_35 : decode cX1_wholeCost 35 = .ok (.aload_n 0, 1) := by decide +kernel
theorem dX1_wholeCost_36 : decode cX1_wholeCost 36 = .ok (.iload_n 3, 1) := by decide +kernel
theorem dX1_wholeCost_37 : decode cX1_wholeCost 37 = .ok (.invokevirtual 133, 3) := by decide +kernel
theorem dX1_wholeCost_40 : decode cX1_wholeCost 40 = .ok (.iconst (-1), 1) := by decide +kernel
theorem dX1_wholeCost_41 : decode cX1_wholeCost 41 = .ok (.if_icmp .eq 14, 3) := by decide +kernel
theorem dX1_wholeCost_44 : decode cX1_wholeCost 44 = .ok (.iload_n 1, 1) := by decide +kernel
theorem dX1_wholeCost_45 : decode cX1_wholeCost 45 = .ok (.aload_n 0, 1) := by decide +kernel
theorem dX1_wholeCost_46 : decode cX1_wholeCost 46 = .ok (.getfield 12, 3) := by decide +kernel
theorem dX1_wholeCost_49 : decode cX1_wholeCost 49 = .ok (.iload_n 3, 1) := by decide +kernel
theorem dX1_wholeCost_50 : decode cX1_wholeCost 50 = .ok (.invokevirtual 136, 3) := by decide +kernel
theorem dX1_wholeCost_53 : decode cX1_wholeCost 53 = .ok (.iadd, 1) := by decide +kernel
theorem dX1_wholeCost_54 : decode cX1_wholeCost 54 = .ok (.istore_n 1, 1) := by decide +kernel
theorem dX1_wholeCost_55 : decode cX1_wholeCost 55 = .ok (.iinc 3 1, 3) := by decide +kernel
theorem dX1_wholeCost_58 : decode cX1_wholeCost 58 = .ok (.goto (-29), 3) := by decide +kernel
theorem dX1_wholeCost_61 : decode cX1_wholeCost 61 = .ok (.iinc 2 1, 3) := by decide +kernel
theorem dX1_wholeCost_64 : decode cX1_wholeCost 64 = .ok (.goto (-56), 3) := by decide +kernel
theorem dX1_wholeCost_67 : decode cX1_wholeCost 67 = .ok (.iload_n 1, 1) := by decide +kernel
theorem dX1_wholeCost_68 : decode cX1_wholeCost 68 = .ok (.ireturn, 1) := by decide +kernel
theorem dX1_tally_0 : decode cX1_tally 0 = .ok (.iconst 0, 1) := by decide +kernel
theorem dX1_tally_1 : decode cX1_tally 1 = .ok (.istore_n 3, 1) := by decide +kernel
theorem dX1_tally_2 : decode cX1_tally 2 = .ok (.aload_n 0, 1) := by decide +kernel
theorem dX1_tally_3 : decode cX1_tally 3 = .ok (.invokevirtual 126, 3) := by decide +kernel
theorem dX1_tally_6 : decode cX1_tally 6 = .ok (.iconst 0, 1) := by decide +kernel
theorem dX1_tally_7 : decode cX1_tally 7 = .ok (.istore 4, 2) := by decide +kernel
theorem dX1_tally_9 : decode cX1_tally 9 = .ok (.iload 4, 2) := by decide +kernel
theorem dX1_tally_11 : decode cX1_tally 11 = .ok (.aload_n 0, 1) := by decide +kernel
theorem dX1_tally_12 : decode cX1_tally 12 = .ok (.getfield 12, 3) := by decide +kernel
theorem dX1_tally_15 : decode cX1_tally 15 = .ok (.getfield 95, 3) := by decide +kernel
theorem dX1_tally_18 : decode cX1_tally 18 = .ok (.invokevirtual 120, 3) := by decide +kernel
theorem dX1_tally_21 : decode cX1_tally 21 = .ok (.if_icmp .ge 80, 3) := by decide +kernel
theorem dX1_tally_24 : decode cX1_tally 24 = .ok (.aload_n 0, 1) := by decide +kernel
theorem dX1_tally_25 : decode cX1_tally 25 = .ok (.iload 4, 2) := by decide +kernel
theorem dX1_tally_27 : decode cX1_tally 27 = .ok (.invokevirtual 129, 3) := by decide +kernel
theorem dX1_tally_30 : decode cX1_tally 30 = .ok (.iconst 1, 1) := by decide +kernel
theorem dX1_tally_31 : decode cX1_tally 31 = .ok (.istore 5, 2) := by decide +kernel
theorem dX1_tally_33 : decode cX1_tally 33 = .ok (.iload 5, 2) := by decide +kernel
theorem dX1_tally_35 : decode cX1_tally 35 = .ok (.bipush 16, 2) := by decide +kernel
theorem dX1_tally_37 : decode cX1_tally 37 = .ok (.if_icmp .gt 58, 3) := by decide +kernel
theorem dX1_tally_40 : decode cX1_tally 40 = .ok (.iload_n 1, 1) := by decide +kernel
theorem dX1_tally_41 : decode cX1_tally 41 = .ok (.iconst (-1), 1) := by decide +kernel
theorem dX1_tally_42 : decode cX1_tally 42 = .ok (.if_icmp .eq 9, 3) := by decide +kernel
theorem dX1_tally_45 : decode cX1_tally 45 = .ok (.iload_n 1, 1) := by decide +kernel
theorem dX1_tally_46 : decode cX1_tally 46 = .ok (.iload 5, 2) := by decide +kernel
theorem dX1_tally_48 : decode cX1_tally 48 = .ok (.if_icmp .ne 20, 3) := by decide +kernel
theorem dX1_tally_51 : decode cX1_tally 51 = .ok (.iload_n 2, 1) := by decide +kernel
theorem dX1_tally_52 : decode cX1_tally 52 = .ok (.iconst (-1), 1) := by decide +kernel
theorem dX1_tally_53 : decode cX1_tally 53 = .ok (.if_icmp .eq 11, 3) := by decide +kernel
theorem dX1_tally_56 : decode cX1_tally 56 = .ok (.iload_n 2, 1) := by decide +kernel
theorem dX1_tally_57 : decode cX1_tally 57 = .ok (.aload_n 0, 1) := by decide +kernel
theorem dX1_tally_58 : decode cX1_tally 58 = .ok (.getfield 50, 3) := by decide +kernel
theorem dX1_tally_61 : decode cX1_tally 61 = .ok (.if_icmp .ne 7, 3) := by decide +kernel
theorem dX1_tally_64 : decode cX1_tally 64 = .ok (.iconst 1, 1) := by decide +kernel
theorem dX1_tally_65 : decode cX1_tally 65 = .ok (.goto 4, 3) := by decide +kernel
theorem dX1_tally_68 : decode cX1_tally 68 = .ok (.iconst 0, 1) := by decide +kernel
theorem dX1_tally_69 : decode cX1_tally 69 = .ok (.istore 6, 2) := by decide +kernel
theorem dX1_tally_71 : decode cX1_tally 71 = .ok (.iload 6, 2) := by decide +kernel
theorem dX1_tally_73 : decode cX1_tally 73 = .ok (.ifCond .eq 16, 3) := by decide +kernel
theorem dX1_tally_76 : decode cX1_tally 76 = .ok (.aload_n 0, 1) := by decide +kernel
theorem dX1_tally_77 : decode cX1_tally 77 = .ok (.iload 5, 2) := by decide +kernel
theorem dX1_tally_79 : decode cX1_tally 79 = .ok (.invokevirtual 133, 3) := by decide +kernel
theorem dX1_tally_82 : decode cX1_tally 82 = .ok (.iconst (-1), 1) := by decide +kernel
theorem dX1_tally_83 : decode cX1_tally 83 = .ok (.if_icmp .eq 6, 3) := by decide +kernel
theorem dX1_tally_86 : decode cX1_tally 86 = .ok (.iinc 3 1, 3) := by decide +kernel
theorem dX1_tally_89 : decode cX1_tally 89 = .ok (.iinc 5 1, 3) := by decide +kernel
theorem dX1_tally_92 : decode cX1_tally 92 = .ok (.goto (-59), 3) := by decide +kernel
theorem dX1_tally_95 : decode cX1_tally 95 = .ok (.iinc 4 1, 3) := by decide +kernel
theorem dX1_tally_98 : decode cX1_tally 98 = .ok (.goto (-89), 3) := by decide +kernel
theorem dX1_tally_101 : decode cX1_tally 101 = .ok (.iload_n 3, 1) := by decide +kernel
theorem dX1_tally_102 : decode cX1_tally 102 = .ok (.ireturn, 1) := by decide +kernel
theorem dX1_find_0 : decode cX1_find 0 = .ok (.iconst 0, 1) := by decide +kernel
theorem dX1_find_1 : decode cX1_find 1 = .ok (.istore_n 2, 1) := by decide +kernel
theorem dX1_find_2 : decode cX1_find 2 = .ok (.aload_n 0, 1) := by decide +kernel
theorem dX1_find_3 : decode cX1_find 3 = .ok (.invokevirtual 126, 3) := by decide +kernel
theorem dX1_find_6 : decode cX1_find 6 = .ok (.iconst 0, 1) := by decide +kernel
theorem dX1_find_7 : decode cX1_find 7 = .ok (.istore_n 3, 1) := by decide +kernel
theorem dX1_find_8 : decode cX1_find 8 = .ok (.iload_n 3, 1) := by decide +kernel
theorem dX1_find_9 : decode cX1_find 9 = .ok (.aload_n 0, 1) := by decide +kernel
theorem dX1_find_10 : decode cX1_find 10 = .ok (.getfield 12, 3) := by decide +kernel
theorem dX1_find_13 : decode cX1_find 13 = .ok (.getfield 95, 3) := by decide +kernel
theorem dX1_find_16 : decode cX1_find 16 = .ok (.invokevirtual 120, 3) := by decide +kernel
theorem dX1_find_19 : decode cX1_find 19 = .ok (.if_icmp .ge 77, 3) := by decide +kernel
theorem dX1_find_22 : decode cX1_find 22 = .ok (.aload_n 0, 1) := by decide +kernel
theorem dX1_find_23 : decode cX1_find 23 = .ok (.iload_n 3, 1) := by decide +kernel
theorem dX1_find_24 : decode cX1_find 24 = .ok (.invokevirtual 129, 3) := by decide +kernel
theorem dX1_find_27 : decode cX1_find 27 = .ok (.iconst 1, 1) := by decide +kernel
theorem dX1_find_28 : decode cX1_find 28 = .ok (.istore 4, 2) := by decide +kernel
theorem dX1_find_30 : decode cX1_find 30 = .ok (.iload 4, 2) := by decide +kernel
theorem dX1_find_32 : decode cX1_find 32 = .ok (.bipush 16, 2) := by decide +kernel
theorem dX1_find_34 : decode cX1_find 34 = .ok (.if_icmp .gt 56, 3) := by decide +kernel
theorem dX1_find_37 : decode cX1_find 37 = .ok (.aload_n 0, 1) := by decide +kernel
theorem dX1_find_38 : decode cX1_find 38 = .ok (.iload 4, 2) := by decide +kernel
theorem dX1_find_40 : decode cX1_find 40 = .ok (.invokevirtual 133, 3) := by decide +kernel
theorem dX1_find_43 : decode cX1_find 43 = .ok (.istore 5, 2) := by decide +kernel
theorem dX1_find_45 : decode cX1_find 45 = .ok (.iload 5, 2) := by decide +kernel
theorem dX1_find_47 : decode cX1_find 47 = .ok (.iconst (-1), 1) := by decide +kernel
theorem dX1_find_48 : decode cX1_find 48 = .ok (.if_icmp .eq 22, 3) := by decide +kernel
theorem dX1_find_51 : decode cX1_find 51 = .ok (.iload_n 2, 1) := by decide +kernel
theorem dX1_find_52 : decode cX1_find 52 = .ok (.iload_n 1, 1) := by decide +kernel
theorem dX1_find_53 : decode cX1_find 53 = .ok (.if_icmp .ne 17, 3) := by decide +kernel
theorem dX1_find_56 : decode cX1_find 56 = .ok (.aload_n 0, 1) := by decide +kernel
theorem dX1_find_57 : decode cX1_find 57 = .ok (.iload 4, 2) := by decide +kernel
theorem dX1_find_59 : decode cX1_find 59 = .ok (.putfield 72, 3) := by decide +kernel
theorem dX1_find_62 : decode cX1_find 62 = .ok (.aload_n 0, 1) := by decide +kernel
theorem dX1_find_63 : decode cX1_find 63 = .ok (.iload 5, 2) := by decide +kernel
theorem dX1_find_65 : decode cX1_find 65 = .ok (.putfield 75, 3) := by decide +kernel
theorem dX1_find_68 : decode cX1_find 68 = .ok (.iconst 1, 1) := by decide +kernel
theorem dX1_find_69 : decode cX1_find 69 = .ok (.ireturn, 1) := by decide +kernel
theorem dX1_find_70 : decode cX1_find 70 = .ok (.iload_n 2, 1) := by decide +kernel
theorem dX1_find_71 : decode cX1_find 71 = .ok (.iload 5, 2) := by decide +kernel
theorem dX1_find_73 : decode cX1_find 73 = .ok (.iconst (-1), 1) := by decide +kernel
theorem dX1_find_74 : decode cX1_find 74 = .ok (.if_icmp .eq 7, 3) := by decide +kernel
theorem dX1_find_77 : decode cX1_find 77 = .ok (.iconst 1, 1) := by decide +kernel
theorem dX1_find_78 : decode cX1_find 78 = .ok (.goto 4, 3) := by decide +kernel
theorem dX1_find_81 : decode cX1_find 81 = .ok (.iconst 0, 1) := by decide +kernel
theorem dX1_find_82 : decode cX1_find 82 = .ok (.iadd, 1) := by decide +kernel
theorem dX1_find_83 : decode cX1_find 83 = .ok (.istore_n 2, 1) := by decide +kernel
theorem dX1_find_84 : decode cX1_find 84 = .ok (.iinc 4 1, 3) := by decide +kernel
theorem dX1_find_87 : decode cX1_find 87 = .ok (.goto (-57), 3) := by decide +kernel
theorem dX1_find_90 : decode cX1_find 90 = .ok (.iinc 3 1, 3) := by decide +kernel
theorem dX1_find_93 : decode cX1_find 93 = .ok (.goto (-85), 3) := by decide +kernel
theorem dX1_find_96 : decode cX1_find 96 = .ok (.iconst 0, 1) := by decide +kernel
theorem dX1_find_97 : decode cX1_find 97 = .ok (.ireturn, 1) := by decide +kernel
theorem dX1_lastNoteFits_0 : decode cX1_lastNoteFits 0 = .ok (.aload_n 0, 1) := by decide +kernel
theorem dX1_lastNoteFits_1 : decode cX1_lastNoteFits 1 = .ok (.aload_n 0, 1) := by decide +kernel
theorem dX1_lastNoteFits_2 : decode cX1_lastNoteFits 2 = .ok (.getfield 12, 3) := by decide +kernel
theorem dX1_lastNoteFits_5 : decode cX1_lastNoteFits 5 = .ok (.getfield 95, 3) := by decide +kernel
theorem dX1_lastNoteFits_8 : decode cX1_lastNoteFits 8 = .ok (.invokevirtual 120, 3) := by decide +kernel
theorem dX1_lastNoteFits_11 : decode cX1_lastNoteFits 11 = .ok (.iconst 1, 1) := by decide +kernel
theorem dX1_lastNoteFits_12 : decode cX1_lastNoteFits 12 = .ok (.isub, 1) := by decide +kernel
theorem dX1_lastNoteFits_13 : decode cX1_lastNoteFits 13 = .ok (.invokevirtual 129, 3) := by decide +kernel
theorem dX1_lastNoteFits_16 : decode cX1_lastNoteFits 16 = .ok (.iconst 1, 1) := by decide +kernel
theorem dX1_lastNoteFits_17 : decode cX1_lastNoteFits 17 = .ok (.istore_n 1, 1) := by decide +kernel
theorem dX1_lastNoteFits_18 : decode cX1_lastNoteFits 18 = .ok (.iload_n 1, 1) := by decide +kernel
theorem dX1_lastNoteFits_19 : decode cX1_lastNoteFits 19 = .ok (.bipush 16, 2) := by decide +kernel
theorem dX1_lastNoteFits_21 : decode cX1_lastNoteFits 21 = .ok (.if_icmp .gt 32, 3) := by decide +kernel
theorem dX1_lastNoteFits_24 : decode cX1_lastNoteFits 24 = .ok (.iload_n 1, 1) := by decide +kernel
theorem dX1_lastNoteFits_25 : decode cX1_lastNoteFits 25 = .ok (.bipush 6, 2) := by decide +kernel
theorem dX1_lastNoteFits_27 : decode cX1_lastNoteFits 27 = .ok (.if_icmp .eq 20, 3) := by decide +kernel
theorem dX1_lastNoteFits_30 : decode cX1_lastNoteFits 30 = .ok (.iload_n 1, 1) := by decide +kernel
theorem dX1_lastNoteFits_31 : decode cX1_lastNoteFits 31 = .ok (.bipush 15, 2) := by decide +kernel
theorem dX1_lastNoteFits_33 : decode cX1_lastNoteFits 33 = .ok (.if_icmp .eq 14, 3) := by decide +kernel
theorem dX1_lastNoteFits_36 : decode cX1_lastNoteFits 36 = .ok (.aload_n 0, 1) := by decide +kernel
theorem dX1_lastNoteFits_37 : decode cX1_lastNoteFits 37 = .ok (.iload_n 1, 1) := by decide +kernel
theorem dX1_lastNoteFits_38 : decode cX1_lastNoteFits 38 = .ok (.invokevirtual 133, 3) := by decide +kernel
theorem dX1_lastNoteFits_41 : decode cX1_lastNoteFits 41 = .ok (.iconst (-1), 1) := by decide +kernel
theorem dX1_lastNoteFits_42 : decode cX1_lastNoteFits 42 = .ok (.if_icmp .eq 5, 3) := by decide +kernel
theorem dX1_lastNoteFits_45 : decode cX1_lastNoteFits 45 = .ok (.iconst 0, 1) := by decide +kernel
theorem dX1_lastNoteFits_46 : decode cX1_lastNoteFits 46 = .ok (.ireturn, 1) := by decide +kernel
theorem dX1_lastNoteFits_47 : decode cX1_lastNoteFits 47 = .ok (.iinc 1 1, 3) := by decide +kernel
theorem dX1_lastNoteFits_50 : decode cX1_lastNoteFits 50 = .ok (.goto (-32), 3) := by decide +kernel
theorem dX1_lastNoteFits_53 : decode cX1_lastNoteFits 53 = .ok (.iconst 1, 1) := by decide +kernel
theorem dX1_lastNoteFits_54 : decode cX1_lastNoteFits 54 = .ok (.ireturn, 1) := by decide +kernel
theorem dX1_survey_0 : decode cX1_survey 0 = .ok (.iconst 0, 1) := by decide +kernel
theorem dX1_survey_1 : decode cX1_survey 1 = .ok (.istore_n 1, 1) := by decide +kernel
theorem dX1_survey_2 : decode cX1_survey 2 = .ok (.iconst 0, 1) := by decide +kernel
theorem dX1_survey_3 : decode cX1_survey 3 = .ok (.istore_n 2, 1) := by decide +kernel
theorem dX1_survey_4 : decode cX1_survey 4 = .ok (.iload_n 2, 1) := by decide +kernel
theorem dX1_survey_5 : decode cX1_survey 5 = .ok (.aload_n 0, 1) := by decide +kernel
theorem dX1_survey_6 : decode cX1_survey 6 = .ok (.getfield 12, 3) := by decide +kernel
theorem dX1_survey_9 : decode cX1_survey 9 = .ok (.getfield 95, 3) := by decide +kernel
theorem dX1_survey_12 : decode cX1_survey 12 = .ok (.invokevirtual 120, 3) := by decide +kernel
theorem dX1_survey_15 : decode cX1_survey 15 = .ok (.if_icmp .ge 43, 3) := by decide +kernel
theorem dX1_survey_18 : decode cX1_survey 18 = .ok (.aload_n 0, 1) := by decide +kernel
theorem dX1_survey_19 : decode cX1_survey 19 = .ok (.getfield 12, 3) := by decide +kernel
theorem dX1_survey_22 : decode cX1_survey 22 = .ok (.getfield 95, 3) := by decide +kernel
theorem dX1_survey_25 : decode cX1_survey 25 = .ok (.iload_n 2, 1) := by decide +kernel
theorem dX1_survey_26 : decode cX1_survey 26 = .ok (.invokevirtual 90, 3) := by decide +kernel
theorem dX1_survey_29 : decode cX1_survey 29 = .ok (.iconst (-1), 1) := by decide +kernel
theorem dX1_survey_30 : decode cX1_survey 30 = .ok (.if_icmp .eq 22, 3) := by decide +kernel
theorem dX1_survey_33 : decode cX1_survey 33 = .ok (.iload_n 1, 1) := by decide +kernel
theorem dX1_survey_34 : decode cX1_survey 34 = .ok (.aload_n 0, 1) := by decide +kernel
theorem dX1_survey_35 : decode cX1_survey 35 = .ok (.getfield 12, 3) := by decide +kernel
theorem dX1_survey_38 : decode cX1_survey 38 = .ok (.getfield 95, 3) := by decide +kernel
theorem dX1_survey_41 : decode cX1_survey 41 = .ok (.iload_n 2, 1) := by decide +kernel
theorem dX1_survey_42 : decode cX1_survey 42 = .ok (.invokevirtual 90, 3) := by decide +kernel
theorem dX1_survey_45 : decode cX1_survey 45 = .ok (.invokestatic 139, 3) := by decide +kernel
theorem dX1_survey_48 : decode cX1_survey 48 = .ok (.invokestatic 142, 3) := by decide +kernel
theorem dX1_survey_51 : decode cX1_survey 51 = .ok (.istore_n 1, 1) := by decide +kernel
theorem dX1_survey_52 : decode cX1_survey 52 = .ok (.iinc 2 1, 3) := by decide +kernel
theorem dX1_survey_55 : decode cX1_survey 55 = .ok (.goto (-51), 3) := by decide +kernel
theorem dX1_survey_58 : decode cX1_survey 58 = .ok (.iconst 0, 1) := by decide +kernel
theorem dX1_survey_59 : decode cX1_survey 59 = .ok (.istore_n 2, 1) := by decide +kernel
theorem dX1_survey_60 : decode cX1_survey 60 = .ok (.aload_n 0, 1) := by decide +kernel
theorem dX1_survey_61 : decode cX1_survey 61 = .ok (.iconst (-1), 1) := by decide +kernel
theorem dX1_survey_62 : decode cX1_survey 62 = .ok (.putfield 66, 3) := by decide +kernel
theorem dX1_survey_65 : decode cX1_survey 65 = .ok (.aload_n 0, 1) := by decide +kernel
theorem dX1_survey_66 : decode cX1_survey 66 = .ok (.iconst 0, 1) := by decide +kernel
theorem dX1_survey_67 : decode cX1_survey 67 = .ok (.putfield 69, 3) := by decide +kernel
theorem dX1_survey_70 : decode cX1_survey 70 = .ok (.iconst 0, 1) := by decide +kernel
theorem dX1_survey_71 : decode cX1_survey 71 = .ok (.istore_n 3, 1) := by decide +kernel
theorem dX1_survey_72 : decode cX1_survey 72 = .ok (.iload_n 3, 1) := by decide +kernel
theorem dX1_survey_73 : decode cX1_survey 73 = .ok (.aload_n 0, 1) := by decide +kernel
theorem dX1_survey_74 : decode cX1_survey 74 = .ok (.getfield 12, 3) := by decide +kernel
theorem dX1_survey_77 : decode cX1_survey 77 = .ok (.getfield 95, 3) := by decide +kernel
theorem dX1_survey_80 : decode cX1_survey 80 = .ok (.invokevirtual 120, 3) := by decide +kernel
theorem dX1_survey_83 : decode cX1_survey 83 = .ok (.if_icmp .ge 90, 3) := by decide +kernel
theorem dX1_survey_86 : decode cX1_survey 86 = .ok (.aload_n 0, 1) := by decide +kernel
theorem dX1_survey_87 : decode cX1_survey 87 = .ok (.getfield 12, 3) := by decide +kernel
theorem dX1_survey_90 : decode cX1_survey 90 = .ok (.getfield 95, 3) := by decide +kernel
theorem dX1_survey_93 : decode cX1_survey 93 = .ok (.iload_n 3, 1) := by decide +kernel
theorem dX1_survey_94 : decode cX1_survey 94 = .ok (.invokevirtual 90, 3) := by decide +kernel
theorem dX1_survey_97 : decode cX1_survey 97 = .ok (.istore 4, 2) := by decide +kernel
theorem dX1_survey_99 : decode cX1_survey 99 = .ok (.iload 4, 2) := by decide +kernel
theorem dX1_survey_101 : decode cX1_survey 101 = .ok (.iconst (-1), 1) := by decide +kernel
theorem dX1_survey_102 : decode cX1_survey 102 = .ok (.if_icmp .eq 65, 3) := by decide +kernel
theorem dX1_survey_105 : decode cX1_survey 105 = .ok (.iload 4, 2) := by decide +kernel
theorem dX1_survey_107 : decode cX1_survey 107 = .ok (.invokestatic 139, 3) := by decide +kernel
theorem dX1_survey_110 : decode cX1_survey 110 = .ok (.iload_n 1, 1) := by decide +kernel
theorem dX1_survey_111 : decode cX1_survey 111 = .ok (.if_icmp .ne 56, 3) := by decide +kernel
theorem dX1_survey_114 : decode cX1_survey 114 = .ok (.aload_n 0, 1) := by decide +kernel
theorem dX1_survey_115 : decode cX1_survey 115 = .ok (.getfield 12, 3) := by decide +kernel
theorem dX1_survey_118 : decode cX1_survey 118 = .ok (.iload_n 3, 1) := by decide +kernel
theorem dX1_survey_119 : decode cX1_survey 119 = .ok (.invokevirtual 148, 3) := by decide +kernel
theorem dX1_survey_122 : decode cX1_survey 122 = .ok (.istore 5, 2) := by decide +kernel
theorem dX1_survey_124 : decode cX1_survey 124 = .ok (.iload_n 2, 1) := by decide +kernel
theorem dX1_survey_125 : decode cX1_survey 125 = .ok (.ifCond .eq 21, 3) := by decide +kernel
theorem dX1_survey_128 : decode cX1_survey 128 = .ok (.iload 5, 2) := by decide +kernel
theorem dX1_survey_130 : decode cX1_survey 130 = .ok (.ifCond .ne 16, 3) := by decide +kernel
theorem dX1_survey_133 : decode cX1_survey 133 = .ok (.aload_n 0, 1) := by decide +kernel
theorem dX1_survey_134 : decode cX1_survey 134 = .ok (.getfield 66, 3) := by decide +kernel
theorem dX1_survey_137 : decode cX1_survey 137 = .ok (.iconst (-1), 1) := by decide +kernel
theorem dX1_survey_138 : decode cX1_survey 138 = .ok (.if_icmp .ne 8, 3) := by decide +kernel
theorem dX1_survey_141 : decode cX1_survey 141 = .ok (.aload_n 0, 1) := by decide +kernel
theorem dX1_survey_142 : decode cX1_survey 142 = .ok (.iload_n 3, 1) := by decide +kernel
theorem dX1_survey_143 : decode cX1_survey 143 = .ok (.putfield 66, 3) := by decide +kernel
theorem dX1_survey_146 : decode cX1_survey 146 = .ok (.aload_n 0, 1) := by decide +kernel
theorem dX1_survey_147 : decode cX1_survey 147 = .ok (.dup, 1) := by decide +kernel
theorem dX1_survey_148 : decode cX1_survey 148 = .ok (.getfield 69, 3) := by decide +kernel
theorem dX1_survey_151 : decode cX1_survey 151 = .ok (.iload 5, 2) := by decide +kernel
theorem dX1_survey_153 : decode cX1_survey 153 = .ok (.ifCond .eq 7, 3) := by decide +kernel
theorem dX1_survey_156 : decode cX1_survey 156 = .ok (.iconst 0, 1) := by decide +kernel
theorem dX1_survey_157 : decode cX1_survey 157 = .ok (.goto 4, 3) := by decide +kernel
theorem dX1_survey_160 : decode cX1_survey 160 = .ok (.iconst 1, 1) := by decide +kernel
theorem dX1_survey_161 : decode cX1_survey 161 = .ok (.iadd, 1) := by decide +kernel
theorem dX1_survey_162 : decode cX1_survey 162 = .ok (.putfield 69, 3) := by decide +kernel
theorem dX1_survey_165 : decode cX1_survey 165 = .ok (.iconst 1, 1) := by decide +kernel
theorem dX1_survey_166 : decode cX1_survey 166 = .ok (.istore_n 2, 1) := by decide +kernel
theorem dX1_survey_167 : decode cX1_survey 167 = .ok (.iinc 3 1, 3) := by decide +kernel
theorem dX1_survey_170 : decode cX1_survey 170 = .ok (.goto (-98), 3) := by decide +kernel
theorem dX1_survey_173 : decode cX1_survey 173 = .ok (.return_, 1) := by decide +kernel
theorem dX1_look_0 : decode cX1_look 0 = .ok (.aload_n 0, 1) := by decide +kernel
theorem dX1_look_1 : decode cX1_look 1 = .ok (.iload_n 1, 1) := by decide +kernel
theorem dX1_look_2 : decode cX1_look 2 = .ok (.putfield 46, 3) := by decide +kernel
theorem dX1_look_5 : decode cX1_look 5 = .ok (.aload_n 0, 1) := by decide +kernel
theorem dX1_look_6 : decode cX1_look 6 = .ok (.aload_n 0, 1) := by decide +kernel
theorem dX1_look_7 : decode cX1_look 7 = .ok (.getfield 12, 3) := by decide +kernel
theorem dX1_look_10 : decode cX1_look 10 = .ok (.iload_n 1, 1) := by decide +kernel
theorem dX1_look_11 : decode cX1_look 11 = .ok (.invokevirtual 86, 3) := by decide +kernel
theorem dX1_look_14 : decode cX1_look 14 = .ok (.putfield 50, 3) := by decide +kernel
theorem dX1_look_17 : decode cX1_look 17 = .ok (.aload_n 0, 1) := by decide +kernel
theorem dX1_look_18 : decode cX1_look 18 = .ok (.aload_n 0, 1) := by decide +kernel
theorem dX1_look_19 : decode cX1_look 19 = .ok (.getfield 12, 3) := by decide +kernel
theorem dX1_look_22 : decode cX1_look 22 = .ok (.iload_n 1, 1) := by decide +kernel
theorem dX1_look_23 : decode cX1_look 23 = .ok (.invokevirtual 152, 3) := by decide +kernel
theorem dX1_look_26 : decode cX1_look 26 = .ok (.putfield 53, 3) := by decide +kernel
theorem dX1_look_29 : decode cX1_look 29 = .ok (.aload_n 0, 1) := by decide +kernel
theorem dX1_look_30 : decode cX1_look 30 = .ok (.aload_n 0, 1) := by decide +kernel
theorem dX1_look_31 : decode cX1_look 31 = .ok (.getfield 12, 3) := by decide +kernel
theorem dX1_look_34 : decode cX1_look 34 = .ok (.getfield 95, 3) := by decide +kernel
theorem dX1_look_37 : decode cX1_look 37 = .ok (.iload_n 1, 1) := by decide +kernel
theorem dX1_look_38 : decode cX1_look 38 = .ok (.invokevirtual 90, 3) := by decide +kernel
theorem dX1_look_41 : decode cX1_look 41 = .ok (.putfield 56, 3) := by decide +kernel
theorem dX1_look_44 : decode cX1_look 44 = .ok (.aload_n 0, 1) := by decide +kernel
theorem dX1_look_45 : decode cX1_look 45 = .ok (.aload_n 0, 1) := by decide +kernel
theorem dX1_look_46 : decode cX1_look 46 = .ok (.getfield 56, 3) := by decide +kernel
theorem dX1_look_49 : decode cX1_look 49 = .ok (.iconst (-1), 1) := by decide +kernel
theorem dX1_look_50 : decode cX1_look 50 = .ok (.if_icmp .ne 7, 3) := by decide +kernel
theorem dX1_look_53 : decode cX1_look 53 = .ok (.iconst 0, 1) := by decide +kernel
theorem dX1_look_54 : decode cX1_look 54 = .ok (.goto 10, 3) := by decide +kernel
theorem dX1_look_57 : decode cX1_look 57 = .ok (.aload_n 0, 1) := by decide +kernel
theorem dX1_look_58 : decode cX1_look 58 = .ok (.getfield 56, 3) := by decide +kernel
theorem dX1_look_61 : decode cX1_look 61 = .ok (.invokestatic 139, 3) := by decide +kernel
theorem dX1_look_64 : decode cX1_look 64 = .ok (.putfield 59, 3) := by decide +kernel
theorem dX1_look_67 : decode cX1_look 67 = .ok (.aload_n 0, 1) := by decide +kernel
theorem dX1_look_68 : decode cX1_look 68 = .ok (.aload_n 0, 1) := by decide +kernel
theorem dX1_look_69 : decode cX1_look 69 = .ok (.getfield 12, 3) := by decide +kernel
theorem dX1_look_72 : decode cX1_look 72 = .ok (.iload_n 1, 1) := by decide +kernel
theorem dX1_look_73 : decode cX1_look 73 = .ok (.invokevirtual 148, 3) := by decide +kernel
theorem dX1_look_76 : decode cX1_look 76 = .ok (.putfield 62, 3) := by decide +kernel
theorem dX1_look_79 : decode cX1_look 79 = .ok (.aload_n 0, 1) := by decide +kernel
theorem dX1_look_80 : decode cX1_look 80 = .ok (.aload_n 0, 1) := by decide +kernel
theorem dX1_look_81 : decode cX1_look 81 = .ok (.getfield 21, 3) := by decide +kernel
theorem dX1_look_84 : decode cX1_look 84 = .ok (.iload_n 1, 1) := by decide +kernel
theorem dX1_look_85 : decode cX1_look 85 = .ok (.invokevirtual 78, 3) := by decide +kernel
theorem dX1_look_88 : decode cX1_look 88 = .ok (.aload_n 0, 1) := by decide +kernel
theorem dX1_look_89 : decode cX1_look 89 = .ok (.aload_n 0, 1) := by decide +kernel
theorem dX1_look_90 : decode cX1_look 90 = .ok (.getfield 25, 3) := by decide +kernel
theorem dX1_look_93 : decode cX1_look 93 = .ok (.iload_n 1, 1) := by decide +kernel
theorem dX1_look_94 : decode cX1_look 94 = .ok (.iconst 1, 1) := by decide +kernel
theorem dX1_look_95 : decode cX1_look 95 = .ok (.iadd, 1) := by decide +kernel
theorem dX1_look_96 : decode cX1_look 96 = .ok (.invokevirtual 78, 3) := by decide +kernel
theorem dX1_look_99 : decode cX1_look 99 = .ok (.aload_n 0, 1) := by decide +kernel
theorem dX1_look_100 : decode cX1_look 100 = .ok (.aload_n 0, 1) := by decide +kernel
theorem dX1_look_101 : decode cX1_look 101 = .ok (.getfield 28, 3) := by decide +kernel
theorem dX1_look_104 : decode cX1_look 104 = .ok (.aload_n 0, 1) := by decide +kernel
theorem dX1_look_105 : decode cX1_look 105 = .ok (.getfield 12, 3) := by decide +kernel
theorem dX1_look_108 : decode cX1_look 108 = .ok (.aload_n 0, 1) := by decide +kernel
theorem dX1_look_109 : decode cX1_look 109 = .ok (.getfield 50, 3) := by decide +kernel
theorem dX1_look_112 : decode cX1_look 112 = .ok (.iconst 1, 1) := by decide +kernel
theorem dX1_look_113 : decode cX1_look 113 = .ok (.isub, 1) := by decide +kernel
theorem dX1_look_114 : decode cX1_look 114 = .ok (.invokevirtual 102, 3) := by decide +kernel
theorem dX1_look_117 : decode cX1_look 117 = .ok (.invokevirtual 78, 3) := by decide +kernel
theorem dX1_look_120 : decode cX1_look 120 = .ok (.aload_n 0, 1) := by decide +kernel
theorem dX1_look_121 : decode cX1_look 121 = .ok (.aload_n 0, 1) := by decide +kernel
theorem dX1_look_122 : decode cX1_look 122 = .ok (.getfield 31, 3) := by decide +kernel
theorem dX1_look_125 : decode cX1_look 125 = .ok (.aload_n 0, 1) := by decide +kernel
theorem dX1_look_126 : decode cX1_look 126 = .ok (.getfield 12, 3) := by decide +kernel
theorem dX1_look_129 : decode cX1_look 129 = .ok (.aload_n 0, 1) := by decide +kernel
theorem dX1_look_130 : decode cX1_look 130 = .ok (.getfield 50, 3) := by decide +kernel
theorem dX1_look_133 : decode cX1_look 133 = .ok (.invokevirtual 102, 3) := by decide +kernel
theorem dX1_look_136 : decode cX1_look 136 = .ok (.iconst 1, 1) := by decide +kernel
theorem dX1_look_137 : decode cX1_look 137 = .ok (.isub, 1) := by decide +kernel
theorem dX1_look_138 : decode cX1_look 138 = .ok (.invokevirtual 78, 3) := by decide +kernel
theorem dX1_look_141 : decode cX1_look 141 = .ok (.aload_n 0, 1) := by decide +kernel
theorem dX1_look_142 : decode cX1_look 142 = .ok (.getfield 34, 3) := by decide +kernel
theorem dX1_look_145 : decode cX1_look 145 = .ok (.aload_n 0, 1) := by decide +kernel
theorem dX1_look_146 : decode cX1_look 146 = .ok (.getfield 12, 3) := by decide +kernel
theorem dX1_look_149 : decode cX1_look 149 = .ok (.getfield 95, 3) := by decide +kernel
theorem dX1_look_152 : decode cX1_look 152 = .ok (.iload_n 1, 1) := by decide +kernel
theorem dX1_look_153 : decode cX1_look 153 = .ok (.iconst 1, 1) := by decide +kernel
theorem dX1_look_154 : decode cX1_look 154 = .ok (.isub, 1) := by decide +kernel
theorem dX1_look_155 : decode cX1_look 155 = .ok (.invokevirtual 90, 3) := by decide +kernel
theorem dX1_look_158 : decode cX1_look 158 = .ok (.aload_n 0, 1) := by decide +kernel
theorem dX1_look_159 : decode cX1_look 159 = .ok (.getfield 56, 3) := by decide +kernel
theorem dX1_look_162 : decode cX1_look 162 = .ok (.invokevirtual 98, 3) := by decide +kernel
theorem dX1_look_165 : decode cX1_look 165 = .ok (.aload_n 0, 1) := by decide +kernel
theorem dX1_look_166 : decode cX1_look 166 = .ok (.getfield 37, 3) := by decide +kernel
theorem dX1_look_169 : decode cX1_look 169 = .ok (.aload_n 0, 1) := by decide +kernel
theorem dX1_look_170 : decode cX1_look 170 = .ok (.getfield 12, 3) := by decide +kernel
theorem dX1_look_173 : decode cX1_look 173 = .ok (.getfield 95, 3) := by decide +kernel
theorem dX1_look_176 : decode cX1_look 176 = .ok (.iload_n 1, 1) := by decide +kernel
theorem dX1_look_177 : decode cX1_look 177 = .ok (.iconst 2, 1) := by decide +kernel
theorem dX1_look_178 : decode cX1_look 178 = .ok (.isub, 1) := by decide +kernel
theorem dX1_look_179 : decode cX1_look 179 = .ok (.invokevirtual 90, 3) := by decide +kernel
theorem dX1_look_182 : decode cX1_look 182 = .ok (.aload_n 0, 1) := by decide +kernel
theorem dX1_look_183 : decode cX1_look 183 = .ok (.getfield 12, 3) := by decide +kernel
theorem dX1_look_186 : decode cX1_look 186 = .ok (.getfield 95, 3) := by decide +kernel
theorem dX1_look_189 : decode cX1_look 189 = .ok (.iload_n 1, 1) := by decide +kernel
theorem dX1_look_190 : decode cX1_look 190 = .ok (.iconst 1, 1) := by decide +kernel
theorem dX1_look_191 : decode cX1_look 191 = .ok (.isub, 1) := by decide +kernel
theorem dX1_look_192 : decode cX1_look 192 = .ok (.invokevirtual 90, 3) := by decide +kernel
theorem dX1_look_195 : decode cX1_look 195 = .ok (.invokevirtual 98, 3) := by decide +kernel
theorem dX1_look_198 : decode cX1_look 198 = .ok (.aload_n 0, 1) := by decide +kernel
theorem dX1_look_199 : decode cX1_look 199 = .ok (.getfield 40, 3) := by decide +kernel
theorem dX1_look_202 : decode cX1_look 202 = .ok (.aload_n 0, 1) := by decide +kernel
theorem dX1_look_203 : decode cX1_look 203 = .ok (.getfield 56, 3) := by decide +kernel
theorem dX1_look_206 : decode cX1_look 206 = .ok (.aload_n 0, 1) := by decide +kernel
theorem dX1_look_207 : decode cX1_look 207 = .ok (.getfield 12, 3) := by decide +kernel
theorem dX1_look_210 : decode cX1_look 210 = .ok (.getfield 95, 3) := by decide +kernel
theorem dX1_look_213 : decode cX1_look 213 = .ok (.iload_n 1, 1) := by decide +kernel
theorem dX1_look_214 : decode cX1_look 214 = .ok (.iconst 1, 1) := by decide +kernel
theorem dX1_look_215 : decode cX1_look 215 = .ok (.iadd, 1) := by decide +kernel
theorem dX1_look_216 : decode cX1_look 216 = .ok (.invokevirtual 90, 3) := by decide +kernel
theorem dX1_look_219 : decode cX1_look 219 = .ok (.invokevirtual 98, 3) := by decide +kernel
theorem dX1_look_222 : decode cX1_look 222 = .ok (.aload_n 0, 1) := by decide +kernel
theorem dX1_look_223 : decode cX1_look 223 = .ok (.getfield 43, 3) := by decide +kernel
theorem dX1_look_226 : decode cX1_look 226 = .ok (.aload_n 0, 1) := by decide +kernel
theorem dX1_look_227 : decode cX1_look 227 = .ok (.getfield 12, 3) := by decide +kernel
theorem dX1_look_230 : decode cX1_look 230 = .ok (.getfield 82, 3) := by decide +kernel
theorem dX1_look_233 : decode cX1_look 233 = .ok (.aload_n 0, 1) := by decide +kernel
theorem dX1_look_234 : decode cX1_look 234 = .ok (.getfield 50, 3) := by decide +kernel
theorem dX1_look_237 : decode cX1_look 237 = .ok (.iconst 1, 1) := by decide +kernel
theorem dX1_look_238 : decode cX1_look 238 = .ok (.isub, 1) := by decide +kernel
theorem dX1_look_239 : decode cX1_look 239 = .ok (.invokevirtual 90, 3) := by decide +kernel
theorem dX1_look_242 : decode cX1_look 242 = .ok (.aload_n 0, 1) := by decide +kernel
theorem dX1_look_243 : decode cX1_look 243 = .ok (.getfield 12, 3) := by decide +kernel
theorem dX1_look_246 : decode cX1_look 246 = .ok (.getfield 82, 3) := by decide +kernel
theorem dX1_look_249 : decode cX1_look 249 = .ok (.aload_n 0, 1) := by decide +kernel
theorem dX1_look_250 : decode cX1_look 250 = .ok (.getfield 50, 3) := by decide +kernel
theorem dX1_look_253 : decode cX1_look 253 = .ok (.invokevirtual 90, 3) := by decide +kernel
theorem dX1_look_256 : decode cX1_look 256 = .ok (.invokevirtual 98, 3) := by decide +kernel
theorem dX1_look_259 : decode cX1_look 259 = .ok (.return_, 1) := by decide +kernel
theorem dX1_detailOf_0 : decode cX1_detailOf 0 = .ok (.aload_n 0, 1) := by decide +kernel
theorem dX1_detailOf_1 : decode cX1_detailOf 1 = .ok (.getfield 56, 3) := by decide +kernel
theorem dX1_detailOf_4 : decode cX1_detailOf 4 = .ok (.iconst (-1), 1) := by decide +kernel
theorem dX1_detailOf_5 : decode cX1_detailOf 5 = .ok (.if_icmp .eq 14, 3) := by decide +kernel
theorem dX1_detailOf_8 : decode cX1_detailOf 8 = .ok (.aload_n 0, 1) := by decide +kernel
theorem dX1_detailOf_9 : decode cX1_detailOf 9 = .ok (.getfield 12, 3) := by decide +kernel
theorem dX1_detailOf_12 : decode cX1_detailOf 12 = .ok (.iload_n 1, 1) := by decide +kernel
theorem dX1_detailOf_13 : decode cX1_detailOf 13 = .ok (.invokevirtual 136, 3) := by decide +kernel
theorem dX1_detailOf_16 : decode cX1_detailOf 16 = .ok (.ifCond .ne 5, 3) := by decide +kernel
theorem dX1_detailOf_19 : decode cX1_detailOf 19 = .ok (.iconst (-1), 1) := by decide +kernel
theorem dX1_detailOf_20 : decode cX1_detailOf 20 = .ok (.ireturn, 1) := by decide +kernel
theorem dX1_detailOf_21 : decode cX1_detailOf 21 = .ok (.iload_n 1, 1) := by decide +kernel
theorem dX1_detailOf_22 : decode cX1_detailOf 22 = .ok (.tableswitch 429 1 16 #[78, 101, 133, 152, 188, 193, 213, 249, 268, 287, 306, 319, 356, 386, 405, 410], 78) := by decide +kernel
theorem dX1_detailOf_100 : decode cX1_detailOf 100 = .ok (.aload_n 0, 1) := by decide +kernel
theorem dX1_detailOf_101 : decode cX1_detailOf 101 = .ok (.getfield 12, 3) := by decide +kernel
theorem dX1_detailOf_104 : decode cX1_detailOf 104 = .ok (.aload_n 0, 1) := by decide +kernel
theorem dX1_detailOf_105 : decode cX1_detailOf 105 = .ok (.getfield 59, 3) := by decide +kernel
theorem dX1_detailOf_108 : decode cX1_detailOf 108 = .ok (.invokevirtual 155, 3) := by decide +kernel
theorem dX1_detailOf_111 : decode cX1_detailOf 111 = .ok (.ifCond .eq 7, 3) := by decide +kernel
theorem dX1_detailOf_114 : decode cX1_detailOf 114 = .ok (.iconst (-1), 1) := by decide +kernel
theorem dX1_detailOf_115 : decode cX1_detailOf 115 = .ok (.goto 7, 3) := by decide +kernel
theorem dX1_detailOf_118 : decode cX1_detailOf 118 = .ok (.aload_n 0, 1) := by decide +kernel
theorem dX1_detailOf_119 : decode cX1_detailOf 119 = .ok (.getfield 59, 3) := by decide +kernel
theorem dX1_detailOf_122 : decode cX1_detailOf 122 = .ok (.ireturn, 1) := by decide +kernel
theorem dX1_detailOf_123 : decode cX1_detailOf 123 = .ok (.aload_n 0, 1) := by decide +kernel
theorem dX1_detailOf_124 : decode cX1_detailOf 124 = .ok (.getfield 34, 3) := by decide +kernel
theorem dX1_detailOf_127 : decode cX1_detailOf 127 = .ok (.invokevirtual 105, 3) := by decide +kernel
theorem dX1_detailOf_130 : decode cX1_detailOf 130 = .ok (.ifCond .eq 23, 3) := by decide +kernel
theorem dX1_detailOf_133 : decode cX1_detailOf 133 = .ok (.aload_n 0, 1) := by decide +kernel
theorem dX1_detailOf_134 : decode cX1_detailOf 134 = .ok (.getfield 34, 3) := by decide +kernel
theorem dX1_detailOf_137 : decode cX1_detailOf 137 = .ok (.invokevirtual 158, 3) := by decide +kernel
theorem dX1_detailOf_140 : decode cX1_detailOf 140 = .ok (.ifCond .ne 13, 3) := by decide +kernel
theorem dX1_detailOf_143 : decode cX1_detailOf 143 = .ok (.aload_n 0, 1) := by decide +kernel
theorem dX1_detailOf_144 : decode cX1_detailOf 144 = .ok (.getfield 34, 3) := by decide +kernel
theorem dX1_detailOf_147 : decode cX1_detailOf 147 = .ok (.invokevirtual 117, 3) := by decide +kernel
theorem dX1_detailOf_150 : decode cX1_detailOf 150 = .ok (.goto 4, 3) := by decide +kernel
theorem dX1_detailOf_153 : decode cX1_detailOf 153 = .ok (.iconst (-1), 1) := by decide +kernel
theorem dX1_detailOf_154 : decode cX1_detailOf 154 = .ok (.ireturn, 1) := by decide +kernel
theorem dX1_detailOf_155 : decode cX1_detailOf 155 = .ok (.aload_n 0, 1) := by decide +kernel
theorem dX1_detailOf_156 : decode cX1_detailOf 156 = .ok (.invokevirtual 161, 3) := by decide +kernel
theorem dX1_detailOf_159 : decode cX1_detailOf 159 = .ok (.ifCond .eq 13, 3) := by decide +kernel
theorem dX1_detailOf_162 : decode cX1_detailOf 162 = .ok (.aload_n 0, 1) := by decide +kernel
theorem dX1_detailOf_163 : decode cX1_detailOf 163 = .ok (.getfield 37, 3) := by decide +kernel
theorem dX1_detailOf_166 : decode cX1_detailOf 166 = .ok (.invokevirtual 164, 3) := by decide +kernel
theorem dX1_detailOf_169 : decode cX1_detailOf 169 = .ok (.goto 4, 3) := by decide +kernel
theorem dX1_detailOf_172 : decode cX1_detailOf 172 = .ok (.iconst (-1), 1) := by decide +kernel
theorem dX1_detailOf_173 : decode cX1_detailOf 173 = .ok (.ireturn, 1) := by decide +kernel
theorem dX1_detailOf_174 : decode cX1_detailOf 174 = .ok (.aload_n 0, 1) := by decide +kernel
theorem dX1_detailOf_175 : decode cX1_detailOf 175 = .ok (.getfield 56, 3) := by decide +kernel
theorem dX1_detailOf_178 : decode cX1_detailOf 178 = .ok (.aload_n 0, 1) := by decide +kernel
theorem dX1_detailOf_179 : decode cX1_detailOf 179 = .ok (.getfield 12, 3) := by decide +kernel
theorem dX1_detailOf_182 : decode cX1_detailOf 182 = .ok (.getfield 95, 3) := by decide +kernel
theorem dX1_detailOf_185 : decode cX1_detailOf 185 = .ok (.aload_n 0, 1) := by decide +kernel
theorem dX1_detailOf_186 : decode cX1_detailOf 186 = .ok (.getfield 46, 3) := by decide +kernel
theorem dX1_detailOf_189 : decode cX1_detailOf 189 = .ok (.iconst 1, 1) := by decide +kernel
theorem dX1_detailOf_190 : decode cX1_detailOf 190 = .ok (.isub, 1) := by decide +kernel
theorem dX1_detailOf_191 : decode cX1_detailOf 191 = .ok (.invokevirtual 90, 3) := by decide +kernel
theorem dX1_detailOf_194 : decode cX1_detailOf 194 = .ok (.if_icmp .ne 14, 3) := by decide +kernel
theorem dX1_detailOf_197 : decode cX1_detailOf 197 = .ok (.aload_n 0, 1) := by decide +kernel
theorem dX1_detailOf_198 : decode cX1_detailOf 198 = .ok (.getfield 62, 3) := by decide +kernel
theorem dX1_detailOf_201 : decode cX1_detailOf 201 = .ok (.ifCond .ne 7, 3) := by decide +kernel
theorem dX1_detailOf_204 : decode cX1_detailOf 204 = .ok (.iconst 0, 1) := by decide +kernel
theorem dX1_detailOf_205 : decode cX1_detailOf 205 = .ok (.goto 4, 3) := by decide +kernel
theorem dX1_detailOf_208 : decode cX1_detailOf 208 = .ok (.iconst (-1), 1) := by decide +kernel
theorem dX1_detailOf_209 : decode cX1_detailOf 209 = .ok (.ireturn, 1) := by decide +kernel
theorem dX1_detailOf_210 : decode cX1_detailOf 210 = .ok (.aload_n 0, 1) := by decide +kernel
theorem dX1_detailOf_211 : decode cX1_detailOf 211 = .ok (.invokevirtual 167, 3) := by decide +kernel
theorem dX1_detailOf_214 : decode cX1_detailOf 214 = .ok (.ireturn, 1) := by decide +kernel
theorem dX1_detailOf_215 : decode cX1_detailOf 215 = .ok (.aload_n 0, 1) := by decide +kernel
theorem dX1_detailOf_216 : decode cX1_detailOf 216 = .ok (.getfield 46, 3) := by decide +kernel
theorem dX1_detailOf_219 : decode cX1_detailOf 219 = .ok (.aload_n 0, 1) := by decide +kernel
theorem dX1_detailOf_220 : decode cX1_detailOf 220 = .ok (.getfield 66, 3) := by decide +kernel
theorem dX1_detailOf_223 : decode cX1_detailOf 223 = .ok (.if_icmp .ne 10, 3) := by decide +kernel
theorem dX1_detailOf_226 : decode cX1_detailOf 226 = .ok (.aload_n 0, 1) := by decide +kernel
theorem dX1_detailOf_227 : decode cX1_detailOf 227 = .ok (.getfield 69, 3) := by decide +kernel
theorem dX1_detailOf_230 : decode cX1_detailOf 230 = .ok (.goto 4, 3) := by decide +kernel
theorem dX1_detailOf_233 : decode cX1_detailOf 233 = .ok (.iconst (-1), 1) := by decide +kernel
theorem dX1_detailOf_234 : decode cX1_detailOf 234 = .ok (.ireturn, 1) := by decide +kernel
theorem dX1_detailOf_235 : decode cX1_detailOf 235 = .ok (.aload_n 0, 1) := by decide +kernel
theorem dX1_detailOf_236 : decode cX1_detailOf 236 = .ok (.getfield 53, 3) := by decide +kernel
theorem dX1_detailOf_239 : decode cX1_detailOf 239 = .ok (.ifCond .ne 30, 3) := by decide +kernel
theorem dX1_detailOf_242 : decode cX1_detailOf 242 = .ok (.aload_n 0, 1) := by decide +kernel
theorem dX1_detailOf_243 : decode cX1_detailOf 243 = .ok (.getfield 21, 3) := by decide +kernel
theorem dX1_detailOf_246 : decode cX1_detailOf 246 = .ok (.invokevirtual 170, 3) := by decide +kernel
theorem dX1_detailOf_249 : decode cX1_detailOf 249 = .ok (.ifCond .ne 20, 3) := by decide +kernel
theorem dX1_detailOf_252 : decode cX1_detailOf 252 = .ok (.aload_n 0, 1) := by decide +kernel
theorem dX1_detailOf_253 : decode cX1_detailOf 253 = .ok (.getfield 62, 3) := by decide +kernel
theorem dX1_detailOf_256 : decode cX1_detailOf 256 = .ok (.ifCond .ne 13, 3) := by decide +kernel
theorem dX1_detailOf_259 : decode cX1_detailOf 259 = .ok (.aload_n 0, 1) := by decide +kernel
theorem dX1_detailOf_260 : decode cX1_detailOf 260 = .ok (.getfield 21, 3) := by decide +kernel
theorem dX1_detailOf_263 : decode cX1_detailOf 263 = .ok (.invokevirtual 117, 3) := by decide +kernel
theorem dX1_detailOf_266 : decode cX1_detailOf 266 = .ok (.goto 4, 3) := by decide +kernel
theorem dX1_detailOf_269 : decode cX1_detailOf 269 = .ok (.iconst (-1), 1) := by decide +kernel
theorem dX1_detailOf_270 : decode cX1_detailOf 270 = .ok (.ireturn, 1) := by decide +kernel
theorem dX1_detailOf_271 : decode cX1_detailOf 271 = .ok (.aload_n 0, 1) := by decide +kernel
theorem dX1_detailOf_272 : decode cX1_detailOf 272 = .ok (.invokevirtual 173, 3) := by decide +kernel
theorem dX1_detailOf_275 : decode cX1_detailOf 275 = .ok (.ifCond .eq 13, 3) := by decide +kernel
theorem dX1_detailOf_278 : decode cX1_detailOf 278 = .ok (.aload_n 0, 1) := by decide +kernel
theorem dX1_detailOf_279 : decode cX1_detailOf 279 = .ok (.getfield 21, 3) := by decide +kernel
theorem dX1_detailOf_282 : decode cX1_detailOf 282 = .ok (.invokevirtual 117, 3) := by decide +kernel
theorem dX1_detailOf_285 : decode cX1_detailOf 285 = .ok (.goto 4, 3) := by decide +kernel
theorem dX1_detailOf_288 : decode cX1_detailOf 288 = .ok (.iconst (-1), 1) := by decide +kernel
theorem dX1_detailOf_289 : decode cX1_detailOf 289 = .ok (.ireturn, 1) := by decide +kernel
theorem dX1_detailOf_290 : decode cX1_detailOf 290 = .ok (.aload_n 0, 1) := by decide +kernel
theorem dX1_detailOf_291 : decode cX1_detailOf 291 = .ok (.invokevirtual 176, 3) := by decide +kernel
theorem dX1_detailOf_294 : decode cX1_detailOf 294 = .ok (.ifCond .eq 13, 3) := by decide +kernel
theorem dX1_detailOf_297 : decode cX1_detailOf 297 = .ok (.aload_n 0, 1) := by decide +kernel
theorem dX1_detailOf_298 : decode cX1_detailOf 298 = .ok (.getfield 21, 3) := by decide +kernel
theorem dX1_detailOf_301 : decode cX1_detailOf 301 = .ok (.invokevirtual 179, 3) := by decide +kernel
theorem dX1_detailOf_304 : decode cX1_detailOf 304 = .ok (.goto 4, 3) := by decide +kernel
theorem dX1_detailOf_307 : decode cX1_detailOf 307 = .ok (.iconst (-1), 1) := by decide +kernel
theorem dX1_detailOf_308 : decode cX1_detailOf 308 = .ok (.ireturn, 1) := by decide +kernel
theorem dX1_detailOf_309 : decode cX1_detailOf 309 = .ok (.aload_n 0, 1) := by decide +kernel
theorem dX1_detailOf_310 : decode cX1_detailOf 310 = .ok (.invokevirtual 182, 3) := by decide +kernel
theorem dX1_detailOf_313 : decode cX1_detailOf 313 = .ok (.ifCond .eq 13, 3) := by decide +kernel
theorem dX1_detailOf_316 : decode cX1_detailOf 316 = .ok (.aload_n 0, 1) := by decide +kernel
theorem dX1_detailOf_317 : decode cX1_detailOf 317 = .ok (.getfield 21, 3) := by decide +kernel
theorem dX1_detailOf_320 : decode cX1_detailOf 320 = .ok (.invokevirtual 179, 3) := by decide +kernel
theorem dX1_detailOf_323 : decode cX1_detailOf 323 = .ok (.goto 4, 3) := by decide +kernel
theorem dX1_detailOf_326 : decode cX1_detailOf 326 = .ok (.iconst (-1), 1) := by decide +kernel
theorem dX1_detailOf_327 : decode cX1_detailOf 327 = .ok (.ireturn, 1) := by decide +kernel
theorem dX1_detailOf_328 : decode cX1_detailOf 328 = .ok (.aload_n 0, 1) := by decide +kernel
theorem dX1_detailOf_329 : decode cX1_detailOf 329 = .ok (.invokevirtual 185, 3) := by decide +kernel
theorem dX1_detailOf_332 : decode cX1_detailOf 332 = .ok (.ifCond .eq 7, 3) := by decide +kernel
theorem dX1_detailOf_335 : decode cX1_detailOf 335 = .ok (.iconst 0, 1) := by decide +kernel
theorem dX1_detailOf_336 : decode cX1_detailOf 336 = .ok (.goto 4, 3) := by decide +kernel
theorem dX1_detailOf_339 : decode cX1_detailOf 339 = .ok (.iconst (-1), 1) := by decide +kernel
theorem dX1_detailOf_340 : decode cX1_detailOf 340 = .ok (.ireturn, 1) := by decide +kernel
theorem dX1_detailOf_341 : decode cX1_detailOf 341 = .ok (.aload_n 0, 1) := by decide +kernel
theorem dX1_detailOf_342 : decode cX1_detailOf 342 = .ok (.getfield 21, 3) := by decide +kernel
theorem dX1_detailOf_345 : decode cX1_detailOf 345 = .ok (.invokevirtual 109, 3) := by decide +kernel
theorem dX1_detailOf_348 : decode cX1_detailOf 348 = .ok (.aload_n 0, 1) := by decide +kernel
theorem dX1_detailOf_349 : decode cX1_detailOf 349 = .ok (.getfield 12, 3) := by decide +kernel
theorem dX1_detailOf_352 : decode cX1_detailOf 352 = .ok (.invokevirtual 188, 3) := by decide +kernel
theorem dX1_detailOf_355 : decode cX1_detailOf 355 = .ok (.ifCond .eq 7, 3) := by decide +kernel
theorem dX1_detailOf_358 : decode cX1_detailOf 358 = .ok (.iconst 1, 1) := by decide +kernel
theorem dX1_detailOf_359 : decode cX1_detailOf 359 = .ok (.goto 4, 3) := by decide +kernel
theorem dX1_detailOf_362 : decode cX1_detailOf 362 = .ok (.iconst (-1), 1) := by decide +kernel
theorem dX1_detailOf_363 : decode cX1_detailOf 363 = .ok (.if_icmp .ne 13, 3) := by decide +kernel
theorem dX1_detailOf_366 : decode cX1_detailOf 366 = .ok (.aload_n 0, 1) := by decide +kernel
theorem dX1_detailOf_367 : decode cX1_detailOf 367 = .ok (.getfield 21, 3) := by decide +kernel
theorem dX1_detailOf_370 : decode cX1_detailOf 370 = .ok (.invokevirtual 117, 3) := by decide +kernel
theorem dX1_detailOf_373 : decode cX1_detailOf 373 = .ok (.goto 4, 3) := by decide +kernel
theorem dX1_detailOf_376 : decode cX1_detailOf 376 = .ok (.iconst (-1), 1) := by decide +kernel
theorem dX1_detailOf_377 : decode cX1_detailOf 377 = .ok (.ireturn, 1) := by decide +kernel
theorem dX1_detailOf_378 : decode cX1_detailOf 378 = .ok (.aload_n 0, 1) := by decide +kernel
theorem dX1_detailOf_379 : decode cX1_detailOf 379 = .ok (.getfield 21, 3) := by decide +kernel
theorem dX1_detailOf_382 : decode cX1_detailOf 382 = .ok (.invokevirtual 117, 3) := by decide +kernel
theorem dX1_detailOf_385 : decode cX1_detailOf 385 = .ok (.aload_n 0, 1) := by decide +kernel
theorem dX1_detailOf_386 : decode cX1_detailOf 386 = .ok (.getfield 12, 3) := by decide +kernel
theorem dX1_detailOf_389 : decode cX1_detailOf 389 = .ok (.iconst 2, 1) := by decide +kernel
theorem dX1_detailOf_390 : decode cX1_detailOf 390 = .ok (.invokevirtual 191, 3) := by decide +kernel
theorem dX1_detailOf_393 : decode cX1_detailOf 393 = .ok (.if_icmp .le 13, 3) := by decide +kernel
theorem dX1_detailOf_396 : decode cX1_detailOf 396 = .ok (.aload_n 0, 1) := by decide +kernel
theorem dX1_detailOf_397 : decode cX1_detailOf 397 = .ok (.getfield 21, 3) := by decide +kernel
theorem dX1_detailOf_400 : decode cX1_detailOf 400 = .ok (.invokevirtual 117, 3) := by decide +kernel
theorem dX1_detailOf_403 : decode cX1_detailOf 403 = .ok (.goto 4, 3) := by decide +kernel
theorem dX1_detailOf_406 : decode cX1_detailOf 406 = .ok (.iconst (-1), 1) := by decide +kernel
theorem dX1_detailOf_407 : decode cX1_detailOf 407 = .ok (.ireturn, 1) := by decide +kernel
theorem dX1_detailOf_408 : decode cX1_detailOf 408 = .ok (.aload_n 0, 1) := by decide +kernel
theorem dX1_detailOf_409 : decode cX1_detailOf 409 = .ok (.invokevirtual 194, 3) := by decide +kernel
theorem dX1_detailOf_412 : decode cX1_detailOf 412 = .ok (.ifCond .eq 13, 3) := by decide +kernel
theorem dX1_detailOf_415 : decode cX1_detailOf 415 = .ok (.aload_n 0, 1) := by decide +kernel
theorem dX1_detailOf_416 : decode cX1_detailOf 416 = .ok (.getfield 21, 3) := by decide +kernel
theorem dX1_detailOf_419 : decode cX1_detailOf 419 = .ok (.invokevirtual 117, 3) := by decide +kernel
theorem dX1_detailOf_422 : decode cX1_detailOf 422 = .ok (.goto 4, 3) := by decide +kernel
theorem dX1_detailOf_425 : decode cX1_detailOf 425 = .ok (.iconst (-1), 1) := by decide +kernel
theorem dX1_detailOf_426 : decode cX1_detailOf 426 = .ok (.ireturn, 1) := by decide +kernel
theorem dX1_detailOf_427 : decode cX1_detailOf 427 = .ok (.aload_n 0, 1) := by decide +kernel
theorem dX1_detailOf_428 : decode cX1_detailOf 428 = .ok (.invokevirtual 197, 3) := by decide +kernel
theorem dX1_detailOf_431 : decode cX1_detailOf 431 = .ok (.ireturn, 1) := by decide +kernel
theorem dX1_detailOf_432 : decode cX1_detailOf 432 = .ok (.aload_n 0, 1) := by decide +kernel
theorem dX1_detailOf_433 : decode cX1_detailOf 433 = .ok (.invokevirtual 200, 3) := by decide +kernel
theorem dX1_detailOf_436 : decode cX1_detailOf 436 = .ok (.ifCond .eq 13, 3) := by decide +kernel
theorem dX1_detailOf_439 : decode cX1_detailOf 439 = .ok (.aload_n 0, 1) := by decide +kernel
theorem dX1_detailOf_440 : decode cX1_detailOf 440 = .ok (.getfield 21, 3) := by decide +kernel
theorem dX1_detailOf_443 : decode cX1_detailOf 443 = .ok (.invokevirtual 117, 3) := by decide +kernel
theorem dX1_detailOf_446 : decode cX1_detailOf 446 = .ok (.goto 4, 3) := by decide +kernel
theorem dX1_detailOf_449 : decode cX1_detailOf 449 = .ok (.iconst (-1), 1) := by decide +kernel
theorem dX1_detailOf_450 : decode cX1_detailOf 450 = .ok (.ireturn, 1) := by decide +kernel
theorem dX1_detailOf_451 : decode cX1_detailOf 451 = .ok (.iconst (-1), 1) := by decide +kernel
theorem dX1_detailOf_452 : decode cX1_detailOf 452 = .ok (.ireturn, 1) := by decide +kernel
theorem dX1_isNotRecovered_0 : decode cX1_isNotRecovered 0 = .ok (.aload_n 0, 1) := by decide +kernel
theorem dX1_isNotRecovered_1 : decode cX1_isNotRecovered 1 = .ok (.getfield 34, 3) := by decide +kernel
theorem dX1_isNotRecovered_4 : decode cX1_isNotRecovered 4 = .ok (.invokevirtual 105, 3) := by decide +kernel
theorem dX1_isNotRecovered_7 : decode cX1_isNotRecovered 7 = .ok (.ifCond .eq 52, 3) := by decide +kernel
theorem dX1_isNotRecovered_10 : decode cX1_isNotRecovered 10 = .ok (.aload_n 0, 1) := by decide +kernel
theorem dX1_isNotRecovered_11 : decode cX1_isNotRecovered 11 = .ok (.getfield 37, 3) := by decide +kernel
theorem dX1_isNotRecovered_14 : decode cX1_isNotRecovered 14 = .ok (.invokevirtual 105, 3) := by decide +kernel
theorem dX1_isNotRecovered_17 : decode cX1_isNotRecovered 17 = .ok (.ifCond .eq 42, 3) := by decide +kernel
theorem dX1_isNotRecovered_20 : decode cX1_isNotRecovered 20 = .ok (.aload_n 0, 1) := by decide +kernel
theorem dX1_isNotRecovered_21 : decode cX1_isNotRecovered 21 = .ok (.getfield 37, 3) := by decide +kernel
theorem dX1_isNotRecovered_24 : decode cX1_isNotRecovered 24 = .ok (.invokevirtual 164, 3) := by decide +kernel
theorem dX1_isNotRecovered_27 : decode cX1_isNotRecovered 27 = .ok (.iconst 4, 1) := by decide +kernel
theorem dX1_isNotRecovered_28 : decode cX1_isNotRecovered 28 = .ok (.if_icmp .lt 31, 3) := by decide +kernel
theorem dX1_isNotRecovered_31 : decode cX1_isNotRecovered 31 = .ok (.aload_n 0, 1) := by decide +kernel
theorem dX1_isNotRecovered_32 : decode cX1_isNotRecovered 32 = .ok (.getfield 34, 3) := by decide +kernel
theorem dX1_isNotRecovered_35 : decode cX1_isNotRecovered 35 = .ok (.invokevirtual 203, 3) := by decide +kernel
theorem dX1_isNotRecovered_38 : decode cX1_isNotRecovered 38 = .ok (.ifCond .eq 17, 3) := by decide +kernel
theorem dX1_isNotRecovered_41 : decode cX1_isNotRecovered 41 = .ok (.aload_n 0, 1) := by decide +kernel
theorem dX1_isNotRecovered_42 : decode cX1_isNotRecovered 42 = .ok (.getfield 34, 3) := by decide +kernel
theorem dX1_isNotRecovered_45 : decode cX1_isNotRecovered 45 = .ok (.aload_n 0, 1) := by decide +kernel
theorem dX1_isNotRecovered_46 : decode cX1_isNotRecovered 46 = .ok (.getfield 37, 3) := by decide +kernel
theorem dX1_isNotRecovered_49 : decode cX1_isNotRecovered 49 = .ok (.invokevirtual 113, 3) := by decide +kernel
theorem dX1_isNotRecovered_52 : decode cX1_isNotRecovered 52 = .ok (.ifCond .ne 7, 3) := by decide +kernel
theorem dX1_isNotRecovered_55 : decode cX1_isNotRecovered 55 = .ok (.iconst 1, 1) := by decide +kernel
theorem dX1_isNotRecovered_56 : decode cX1_isNotRecovered 56 = .ok (.goto 4, 3) := by decide +kernel
theorem dX1_isNotRecovered_59 : decode cX1_isNotRecovered 59 = .ok (.iconst 0, 1) := by decide +kernel
theorem dX1_isNotRecovered_60 : decode cX1_isNotRecovered 60 = .ok (.ireturn, 1) := by decide +kernel
theorem dX1_outline_0 : decode cX1_outline 0 = .ok (.aload_n 0, 1) := by decide +kernel
theorem dX1_outline_1 : decode cX1_outline 1 = .ok (.getfield 37, 3) := by decide +kernel
theorem dX1_outline_4 : decode cX1_outline 4 = .ok (.invokevirtual 164, 3) := by decide +kernel
theorem dX1_outline_7 : decode cX1_outline 7 = .ok (.aload_n 0, 1) := by decide +kernel
theorem dX1_outline_8 : decode cX1_outline 8 = .ok (.getfield 34, 3) := by decide +kernel
theorem dX1_outline_11 : decode cX1_outline 11 = .ok (.invokevirtual 164, 3) := by decide +kernel
theorem dX1_outline_14 : decode cX1_outline 14 = .ok (.iadd, 1) := by decide +kernel
theorem dX1_outline_15 : decode cX1_outline 15 = .ok (.istore_n 1, 1) := by decide +kernel
theorem dX1_outline_16 : decode cX1_outline 16 = .ok (.aload_n 0, 1) := by decide +kernel
theorem dX1_outline_17 : decode cX1_outline 17 = .ok (.getfield 37, 3) := by decide +kernel
theorem dX1_outline_20 : decode cX1_outline 20 = .ok (.invokevirtual 206, 3) := by decide +kernel
theorem dX1_outline_23 : decode cX1_outline 23 = .ok (.ifCond .eq 31, 3) := by decide +kernel
theorem dX1_outline_26 : decode cX1_outline 26 = .ok (.aload_n 0, 1) := by decide +kernel
theorem dX1_outline_27 : decode cX1_outline 27 = .ok (.getfield 34, 3) := by decide +kernel
theorem dX1_outline_30 : decode cX1_outline 30 = .ok (.invokevirtual 206, 3) := by decide +kernel
theorem dX1_outline_33 : decode cX1_outline 33 = .ok (.ifCond .eq 21, 3) := by decide +kernel
theorem dX1_outline_36 : decode cX1_outline 36 = .ok (.aload_n 0, 1) := by decide +kernel
theorem dX1_outline_37 : decode cX1_outline 37 = .ok (.getfield 34, 3) := by decide +kernel
theorem dX1_outline_40 : decode cX1_outline 40 = .ok (.aload_n 0, 1) := by decide +kernel
theorem dX1_outline_41 : decode cX1_outline 41 = .ok (.getfield 37, 3) := by decide +kernel
theorem dX1_outline_44 : decode cX1_outline 44 = .ok (.invokevirtual 209, 3) := by decide +kernel
theorem dX1_outline_47 : decode cX1_outline 47 = .ok (.ifCond .eq 7, 3) := by decide +kernel
theorem dX1_outline_50 : decode cX1_outline 50 = .ok (.iconst 1, 1) := by decide +kernel
theorem dX1_outline_51 : decode cX1_outline 51 = .ok (.goto 4, 3) := by decide +kernel
theorem dX1_outline_54 : decode cX1_outline 54 = .ok (.iconst 0, 1) := by decide +kernel
theorem dX1_outline_55 : decode cX1_outline 55 = .ok (.istore_n 2, 1) := by decide +kernel
theorem dX1_outline_56 : decode cX1_outline 56 = .ok (.iload_n 2, 1) := by decide +kernel
theorem dX1_outline_57 : decode cX1_outline 57 = .ok (.ifCond .eq 19, 3) := by decide +kernel
theorem dX1_outline_60 : decode cX1_outline 60 = .ok (.iload_n 1, 1) := by decide +kernel
theorem dX1_outline_61 : decode cX1_outline 61 = .ok (.bipush 6, 2) := by decide +kernel
theorem dX1_outline_63 : decode cX1_outline 63 = .ok (.if_icmp .eq 9, 3) := by decide +kernel
theorem dX1_outline_66 : decode cX1_outline 66 = .ok (.iload_n 1, 1) := by decide +kernel
theorem dX1_outline_67 : decode cX1_outline 67 = .ok (.bipush 7, 2) := by decide +kernel
theorem dX1_outline_69 : decode cX1_outline 69 = .ok (.if_icmp .le 7, 3) := by decide +kernel
theorem dX1_outline_72 : decode cX1_outline 72 = .ok (.iload_n 1, 1) := by decide +kernel
theorem dX1_outline_73 : decode cX1_outline 73 = .ok (.goto 4, 3) := by decide +kernel
theorem dX1_outline_76 : decode cX1_outline 76 = .ok (.iconst (-1), 1) := by decide +kernel
theorem dX1_outline_77 : decode cX1_outline 77 = .ok (.ireturn, 1) := by decide +kernel
theorem dX1_isWeakDissonance_0 : decode cX1_isWeakDissonance 0 = .ok (.aload_n 0, 1) := by decide +kernel
theorem dX1_isWeakDissonance_1 : decode cX1_isWeakDissonance 1 = .ok (.getfield 53, 3) := by decide +kernel
theorem dX1_isWeakDissonance_4 : decode cX1_isWeakDissonance 4 = .ok (.ifCond .eq 13, 3) := by decide +kernel
theorem dX1_isWeakDissonance_7 : decode cX1_isWeakDissonance 7 = .ok (.aload_n 0, 1) := by decide +kernel
theorem dX1_isWeakDissonance_8 : decode cX1_isWeakDissonance 8 = .ok (.getfield 21, 3) := by decide +kernel
theorem dX1_isWeakDissonance_11 : decode cX1_isWeakDissonance 11 = .ok (.invokevirtual 170, 3) := by decide +kernel
theorem dX1_isWeakDissonance_14 : decode cX1_isWeakDissonance 14 = .ok (.ifCond .eq 5, 3) := by decide +kernel
theorem dX1_isWeakDissonance_17 : decode cX1_isWeakDissonance 17 = .ok (.iconst 0, 1) := by decide +kernel
theorem dX1_isWeakDissonance_18 : decode cX1_isWeakDissonance 18 = .ok (.ireturn, 1) := by decide +kernel
theorem dX1_isWeakDissonance_19 : decode cX1_isWeakDissonance 19 = .ok (.aload_n 0, 1) := by decide +kernel
theorem dX1_isWeakDissonance_20 : decode cX1_isWeakDissonance 20 = .ok (.getfield 34, 3) := by decide +kernel
theorem dX1_isWeakDissonance_23 : decode cX1_isWeakDissonance 23 = .ok (.invokevirtual 203, 3) := by decide +kernel
theorem dX1_isWeakDissonance_26 : decode cX1_isWeakDissonance 26 = .ok (.ifCond .eq 17, 3) := by decide +kernel
theorem dX1_isWeakDissonance_29 : decode cX1_isWeakDissonance 29 = .ok (.aload_n 0, 1) := by decide +kernel
theorem dX1_isWeakDissonance_30 : decode cX1_isWeakDissonance 30 = .ok (.getfield 40, 3) := by decide +kernel
theorem dX1_isWeakDissonance_33 : decode cX1_isWeakDissonance 33 = .ok (.invokevirtual 203, 3) := by decide +kernel
theorem dX1_isWeakDissonance_36 : decode cX1_isWeakDissonance 36 = .ok (.ifCond .eq 7, 3) := by decide +kernel
theorem dX1_isWeakDissonance_39 : decode cX1_isWeakDissonance 39 = .ok (.iconst 1, 1) := by decide +kernel
theorem dX1_isWeakDissonance_40 : decode cX1_isWeakDissonance 40 = .ok (.goto 4, 3) := by decide +kernel
theorem dX1_isWeakDissonance_43 : decode cX1_isWeakDissonance 43 = .ok (.iconst 0, 1) := by decide +kernel
theorem dX1_isWeakDissonance_44 : decode cX1_isWeakDissonance 44 = .ok (.istore_n 1, 1) := by decide +kernel
theorem dX1_isWeakDissonance_45 : decode cX1_isWeakDissonance 45 = .ok (.iload_n 1, 1) := by decide +kernel
theorem dX1_isWeakDissonance_46 : decode cX1_isWeakDissonance 46 = .ok (.ifCond .eq 21, 3) := by decide +kernel
theorem dX1_isWeakDissonance_49 : decode cX1_isWeakDissonance 49 = .ok (.aload_n 0, 1) := by decide +kernel
theorem dX1_isWeakDissonance_50 : decode cX1_isWeakDissonance 50 = .ok (.getfield 40, 3) := by decide +kernel
theorem dX1_isWeakDissonance_53 : decode cX1_isWeakDissonance 53 = .ok (.aload_n 0, 1) := by decide +kernel
theorem dX1_isWeakDissonance_54 : decode cX1_isWeakDissonance 54 = .ok (.getfield 34, 3) := by decide +kernel
theorem dX1_isWeakDissonance_57 : decode cX1_isWeakDissonance 57 = .ok (.invokevirtual 209, 3) := by decide +kernel
theorem dX1_isWeakDissonance_60 : decode cX1_isWeakDissonance 60 = .ok (.ifCond .eq 7, 3) := by decide +kernel
theorem dX1_isWeakDissonance_63 : decode cX1_isWeakDissonance 63 = .ok (.iconst 1, 1) := by decide +kernel
theorem dX1_isWeakDissonance_64 : decode cX1_isWeakDissonance 64 = .ok (.goto 4, 3) := by decide +kernel
theorem dX1_isWeakDissonance_67 : decode cX1_isWeakDissonance 67 = .ok (.iconst 0, 1) := by decide +kernel
theorem dX1_isWeakDissonance_68 : decode cX1_isWeakDissonance 68 = .ok (.istore_n 2, 1) := by decide +kernel
theorem dX1_isWeakDissonance_69 : decode cX1_isWeakDissonance 69 = .ok (.iload_n 1, 1) := by decide +kernel
theorem dX1_isWeakDissonance_70 : decode cX1_isWeakDissonance 70 = .ok (.ifCond .eq 42, 3) := by decide +kernel
theorem dX1_isWeakDissonance_73 : decode cX1_isWeakDissonance 73 = .ok (.aload_n 0, 1) := by decide +kernel
theorem dX1_isWeakDissonance_74 : decode cX1_isWeakDissonance 74 = .ok (.getfield 12, 3) := by decide +kernel
theorem dX1_isWeakDissonance_77 : decode cX1_isWeakDissonance 77 = .ok (.getfield 95, 3) := by decide +kernel
theorem dX1_isWeakDissonance_80 : decode cX1_isWeakDissonance 80 = .ok (.aload_n 0, 1) := by decide +kernel
theorem dX1_isWeakDissonance_81 : decode cX1_isWeakDissonance 81 = .ok (.getfield 46, 3) := by decide +kernel
theorem dX1_isWeakDissonance_84 : decode cX1_isWeakDissonance 84 = .ok (.iconst 1, 1) := by decide +kernel
theorem dX1_isWeakDissonance_85 : decode cX1_isWeakDissonance 85 = .ok (.isub, 1) := by decide +kernel
theorem dX1_isWeakDissonance_86 : decode cX1_isWeakDissonance 86 = .ok (.invokevirtual 90, 3) := by decide +kernel
theorem dX1_isWeakDissonance_89 : decode cX1_isWeakDissonance 89 = .ok (.aload_n 0, 1) := by decide +kernel
theorem dX1_isWeakDissonance_90 : decode cX1_isWeakDissonance 90 = .ok (.getfield 12, 3) := by decide +kernel
theorem dX1_isWeakDissonance_93 : decode cX1_isWeakDissonance 93 = .ok (.getfield 95, 3) := by decide +kernel
theorem dX1_isWeakDissonance_96 : decode cX1_isWeakDissonance 96 = .ok (.aload_n 0, 1) := by decide +kernel
theorem dX1_isWeakDissonance_97 : decode cX1_isWeakDissonance 97 = .ok (.getfield 46, 3) := by decide +kernel
theorem dX1_isWeakDissonance_100 : decode cX1_isWeakDissonance 100 = .ok (.iconst 1, 1) := by decide +kernel
theorem dX1_isWeakDissonance_101 : decode cX1_isWeakDissonance 101 = .ok (.iadd, 1) := by decide +kernel
theorem dX1_isWeakDissonance_102 : decode cX1_isWeakDissonance 102 = .ok (.invokevirtual 90, 3) := by decide +kernel
theorem dX1_isWeakDissonance_105 : decode cX1_isWeakDissonance 105 = .ok (.if_icmp .ne 7, 3) := by decide +kernel
theorem dX1_isWeakDissonance_108 : decode cX1_isWeakDissonance 108 = .ok (.iconst 1, 1) := by decide +kernel
theorem dX1_isWeakDissonance_109 : decode cX1_isWeakDissonance 109 = .ok (.goto 4, 3) := by decide +kernel
theorem dX1_isWeakDissonance_112 : decode cX1_isWeakDissonance 112 = .ok (.iconst 0, 1) := by decide +kernel
theorem dX1_isWeakDissonance_113 : decode cX1_isWeakDissonance 113 = .ok (.istore_n 3, 1) := by decide +kernel
theorem dX1_isWeakDissonance_114 : decode cX1_isWeakDissonance 114 = .ok (.aload_n 0, 1) := by decide +kernel
theorem dX1_isWeakDissonance_115 : decode cX1_isWeakDissonance 115 = .ok (.getfield 12, 3) := by decide +kernel
theorem dX1_isWeakDissonance_118 : decode cX1_isWeakDissonance 118 = .ok (.invokevirtual 212, 3) := by decide +kernel
theorem dX1_isWeakDissonance_121 : decode cX1_isWeakDissonance 121 = .ok (.lookupswitch 51 #[(2, 27), (3, 37)], 27) := by decide +kernel
theorem dX1_isWeakDissonance_148 : decode cX1_isWeakDissonance 148 = .ok (.iload_n 2, 1) := by decide +kernel
theorem dX1_isWeakDissonance_149 : decode cX1_isWeakDissonance 149 = .ok (.ifCond .ne 7, 3) := by decide +kernel
theorem dX1_isWeakDissonance_152 : decode cX1_isWeakDissonance 152 = .ok (.iconst 1, 1) := by decide +kernel
theorem dX1_isWeakDissonance_153 : decode cX1_isWeakDissonance 153 = .ok (.goto 4, 3) := by decide +kernel
theorem dX1_isWeakDissonance_156 : decode cX1_isWeakDissonance 156 = .ok (.iconst 0, 1) := by decide +kernel
theorem dX1_isWeakDissonance_157 : decode cX1_isWeakDissonance 157 = .ok (.ireturn, 1) := by decide +kernel
theorem dX1_isWeakDissonance_158 : decode cX1_isWeakDissonance 158 = .ok (.iload_n 2, 1) := by decide +kernel
theorem dX1_isWeakDissonance_159 : decode cX1_isWeakDissonance 159 = .ok (.ifCond .ne 11, 3) := by decide +kernel
theorem dX1_isWeakDissonance_162 : decode cX1_isWeakDissonance 162 = .ok (.iload_n 3, 1) := by decide +kernel
theorem dX1_isWeakDissonance_163 : decode cX1_isWeakDissonance 163 = .ok (.ifCond .ne 7, 3) := by decide +kernel
theorem dX1_isWeakDissonance_166 : decode cX1_isWeakDissonance 166 = .ok (.iconst 1, 1) := by decide +kernel
theorem dX1_isWeakDissonance_167 : decode cX1_isWeakDissonance 167 = .ok (.goto 4, 3) := by decide +kernel
theorem dX1_isWeakDissonance_170 : decode cX1_isWeakDissonance 170 = .ok (.iconst 0, 1) := by decide +kernel
theorem dX1_isWeakDissonance_171 : decode cX1_isWeakDissonance 171 = .ok (.ireturn, 1) := by decide +kernel
theorem dX1_isWeakDissonance_172 : decode cX1_isWeakDissonance 172 = .ok (.iconst 1, 1) := by decide +kernel
theorem dX1_isWeakDissonance_173 : decode cX1_isWeakDissonance 173 = .ok (.ireturn, 1) := by decide +kernel
theorem dX1_isParallel_0 : decode cX1_isParallel 0 = .ok (.aload_n 0, 1) := by decide +kernel
theorem dX1_isParallel_1 : decode cX1_isParallel 1 = .ok (.getfield 53, 3) := by decide +kernel
theorem dX1_isParallel_4 : decode cX1_isParallel 4 = .ok (.ifCond .ne 48, 3) := by decide +kernel
theorem dX1_isParallel_7 : decode cX1_isParallel 7 = .ok (.aload_n 0, 1) := by decide +kernel
theorem dX1_isParallel_8 : decode cX1_isParallel 8 = .ok (.aload_n 0, 1) := by decide +kernel
theorem dX1_isParallel_9 : decode cX1_isParallel 9 = .ok (.getfield 28, 3) := by decide +kernel
theorem dX1_isParallel_12 : decode cX1_isParallel 12 = .ok (.aload_n 0, 1) := by decide +kernel
theorem dX1_isParallel_13 : decode cX1_isParallel 13 = .ok (.getfield 12, 3) := by decide +kernel
theorem dX1_isParallel_16 : decode cX1_isParallel 16 = .ok (.aload_n 0, 1) := by decide +kernel
theorem dX1_isParallel_17 : decode cX1_isParallel 17 = .ok (.getfield 50, 3) := by decide +kernel
theorem dX1_isParallel_20 : decode cX1_isParallel 20 = .ok (.iconst 1, 1) := by decide +kernel
theorem dX1_isParallel_21 : decode cX1_isParallel 21 = .ok (.isub, 1) := by decide +kernel
theorem dX1_isParallel_22 : decode cX1_isParallel 22 = .ok (.invokevirtual 102, 3) := by decide +kernel
theorem dX1_isParallel_25 : decode cX1_isParallel 25 = .ok (.invokevirtual 215, 3) := by decide +kernel
theorem dX1_isParallel_28 : decode cX1_isParallel 28 = .ok (.ifCond .ne 20, 3) := by decide +kernel
theorem dX1_isParallel_31 : decode cX1_isParallel 31 = .ok (.aload_n 0, 1) := by decide +kernel
theorem dX1_isParallel_32 : decode cX1_isParallel 32 = .ok (.aload_n 0, 1) := by decide +kernel
theorem dX1_isParallel_33 : decode cX1_isParallel 33 = .ok (.getfield 31, 3) := by decide +kernel
theorem dX1_isParallel_36 : decode cX1_isParallel 36 = .ok (.aload_n 0, 1) := by decide +kernel
theorem dX1_isParallel_37 : decode cX1_isParallel 37 = .ok (.getfield 46, 3) := by decide +kernel
theorem dX1_isParallel_40 : decode cX1_isParallel 40 = .ok (.iconst 1, 1) := by decide +kernel
theorem dX1_isParallel_41 : decode cX1_isParallel 41 = .ok (.isub, 1) := by decide +kernel
theorem dX1_isParallel_42 : decode cX1_isParallel 42 = .ok (.invokevirtual 215, 3) := by decide +kernel
theorem dX1_isParallel_45 : decode cX1_isParallel 45 = .ok (.ifCond .eq 7, 3) := by decide +kernel
theorem dX1_isParallel_48 : decode cX1_isParallel 48 = .ok (.iconst 1, 1) := by decide +kernel
theorem dX1_isParallel_49 : decode cX1_isParallel 49 = .ok (.goto 4, 3) := by decide +kernel
theorem dX1_isParallel_52 : decode cX1_isParallel 52 = .ok (.iconst 0, 1) := by decide +kernel
theorem dX1_isParallel_53 : decode cX1_isParallel 53 = .ok (.ireturn, 1) := by decide +kernel
theorem dX1_isParallelFrom_0 : decode cX1_isParallelFrom 0 = .ok (.aload_n 1, 1) := by decide +kernel
theorem dX1_isParallelFrom_1 : decode cX1_isParallelFrom 1 = .ok (.invokevirtual 179, 3) := by decide +kernel
theorem dX1_isParallelFrom_4 : decode cX1_isParallelFrom 4 = .ok (.ifCond .eq 52, 3) := by decide +kernel
theorem dX1_isParallelFrom_7 : decode cX1_isParallelFrom 7 = .ok (.aload_n 1, 1) := by decide +kernel
theorem dX1_isParallelFrom_8 : decode cX1_isParallelFrom 8 = .ok (.invokevirtual 179, 3) := by decide +kernel
theorem dX1_isParallelFrom_11 : decode cX1_isParallelFrom 11 = .ok (.aload_n 0, 1) := by decide +kernel
theorem dX1_isParallelFrom_12 : decode cX1_isParallelFrom 12 = .ok (.getfield 21, 3) := by decide +kernel
theorem dX1_isParallelFrom_15 : decode cX1_isParallelFrom 15 = .ok (.invokevirtual 179, 3) := by decide +kernel
theorem dX1_isParallelFrom_18 : decode cX1_isParallelFrom 18 = .ok (.if_icmp .ne 38, 3) := by decide +kernel
theorem dX1_isParallelFrom_21 : decode cX1_isParallelFrom 21 = .ok (.aload_n 0, 1) := by decide +kernel
theorem dX1_isParallelFrom_22 : decode cX1_isParallelFrom 22 = .ok (.getfield 12, 3) := by decide +kernel
theorem dX1_isParallelFrom_25 : decode cX1_isParallelFrom 25 = .ok (.getfield 95, 3) := by decide +kernel
theorem dX1_isParallelFrom_28 : decode cX1_isParallelFrom 28 = .ok (.iload_n 2, 1) := by decide +kernel
theorem dX1_isParallelFrom_29 : decode cX1_isParallelFrom 29 = .ok (.invokevirtual 90, 3) := by decide +kernel
theorem dX1_isParallelFrom_32 : decode cX1_isParallelFrom 32 = .ok (.invokestatic 139, 3) := by decide +kernel
theorem dX1_isParallelFrom_35 : decode cX1_isParallelFrom 35 = .ok (.aload_n 0, 1) := by decide +kernel
theorem dX1_isParallelFrom_36 : decode cX1_isParallelFrom 36 = .ok (.getfield 59, 3) := by decide +kernel
theorem dX1_isParallelFrom_39 : decode cX1_isParallelFrom 39 = .ok (.if_icmp .eq 17, 3) := by decide +kernel
theorem dX1_isParallelFrom_42 : decode cX1_isParallelFrom 42 = .ok (.aload_n 0, 1) := by decide +kernel
theorem dX1_isParallelFrom_43 : decode cX1_isParallelFrom 43 = .ok (.getfield 43, 3) := by decide +kernel
theorem dX1_isParallelFrom_46 : decode cX1_isParallelFrom 46 = .ok (.invokevirtual 109, 3) := by decide +kernel
theorem dX1_isParallelFrom_49 : decode cX1_isParallelFrom 49 = .ok (.ifCond .eq 7, 3) := by decide +kernel
theorem dX1_isParallelFrom_52 : decode cX1_isParallelFrom 52 = .ok (.iconst 1, 1) := by decide +kernel
theorem dX1_isParallelFrom_53 : decode cX1_isParallelFrom 53 = .ok (.goto 4, 3) := by decide +kernel
theorem dX1_isParallelFrom_56 : decode cX1_isParallelFrom 56 = .ok (.iconst 0, 1) := by decide +kernel
theorem dX1_isParallelFrom_57 : decode cX1_isParallelFrom 57 = .ok (.ireturn, 1) := by decide +kernel
theorem dX1_isDirect_0 : decode cX1_isDirect 0 = .ok (.aload_n 0, 1) := by decide +kernel
theorem dX1_isDirect_1 : decode cX1_isDirect 1 = .ok (.getfield 53, 3) := by decide +kernel
theorem dX1_isDirect_4 : decode cX1_isDirect 4 = .ok (.ifCond .ne 27, 3) := by decide +kernel
theorem dX1_isDirect_7 : decode cX1_isDirect 7 = .ok (.aload_n 0, 1) := by decide +kernel
theorem dX1_isDirect_8 : decode cX1_isDirect 8 = .ok (.getfield 21, 3) := by decide +kernel
theorem dX1_isDirect_11 : decode cX1_isDirect 11 = .ok (.invokevirtual 179, 3) := by decide +kernel
theorem dX1_isDirect_14 : decode cX1_isDirect 14 = .ok (.ifCond .eq 17, 3) := by decide +kernel
theorem dX1_isDirect_17 : decode cX1_isDirect 17 = .ok (.aload_n 0, 1) := by decide +kernel
theorem dX1_isDirect_18 : decode cX1_isDirect 18 = .ok (.getfield 34, 3) := by decide +kernel
theorem dX1_isDirect_21 : decode cX1_isDirect 21 = .ok (.aload_n 0, 1) := by decide +kernel
theorem dX1_isDirect_22 : decode cX1_isDirect 22 = .ok (.getfield 43, 3) := by decide +kernel
theorem dX1_isDirect_25 : decode cX1_isDirect 25 = .ok (.invokevirtual 209, 3) := by decide +kernel
theorem dX1_isDirect_28 : decode cX1_isDirect 28 = .ok (.ifCond .ne 5, 3) := by decide +kernel
theorem dX1_isDirect_31 : decode cX1_isDirect 31 = .ok (.iconst 0, 1) := by decide +kernel
theorem dX1_isDirect_32 : decode cX1_isDirect 32 = .ok (.ireturn, 1) := by decide +kernel
theorem dX1_isDirect_33 : decode cX1_isDirect 33 = .ok (.aload_n 0, 1) := by decide +kernel
theorem dX1_isDirect_34 : decode cX1_isDirect 34 = .ok (.getfield 21, 3) := by decide +kernel
theorem dX1_isDirect_37 : decode cX1_isDirect 37 = .ok (.invokevirtual 109, 3) := by decide +kernel
theorem dX1_isDirect_40 : decode cX1_isDirect 40 = .ok (.ifCond .lt 13, 3) := by decide +kernel
theorem dX1_isDirect_43 : decode cX1_isDirect 43 = .ok (.aload_n 0, 1) := by decide +kernel
theorem dX1_isDirect_44 : decode cX1_isDirect 44 = .ok (.getfield 34, 3) := by decide +kernel
theorem dX1_isDirect_47 : decode cX1_isDirect 47 = .ok (.invokevirtual 206, 3) := by decide +kernel
theorem dX1_isDirect_50 : decode cX1_isDirect 50 = .ok (.goto 10, 3) := by decide +kernel
theorem dX1_isDirect_53 : decode cX1_isDirect 53 = .ok (.aload_n 0, 1) := by decide +kernel
theorem dX1_isDirect_54 : decode cX1_isDirect 54 = .ok (.getfield 43, 3) := by decide +kernel
theorem dX1_isDirect_57 : decode cX1_isDirect 57 = .ok (.invokevirtual 206, 3) := by decide +kernel
theorem dX1_isDirect_60 : decode cX1_isDirect 60 = .ok (.istore_n 1, 1) := by decide +kernel
theorem dX1_isDirect_61 : decode cX1_isDirect 61 = .ok (.iload_n 1, 1) := by decide +kernel
theorem dX1_isDirect_62 : decode cX1_isDirect 62 = .ok (.ifCond .eq 24, 3) := by decide +kernel
theorem dX1_isDirect_65 : decode cX1_isDirect 65 = .ok (.aload_n 0, 1) := by decide +kernel
theorem dX1_isDirect_66 : decode cX1_isDirect 66 = .ok (.aload_n 0, 1) := by decide +kernel
theorem dX1_isDirect_67 : decode cX1_isDirect 67 = .ok (.getfield 31, 3) := by decide +kernel
theorem dX1_isDirect_70 : decode cX1_isDirect 70 = .ok (.aload_n 0, 1) := by decide +kernel
theorem dX1_isDirect_71 : decode cX1_isDirect 71 = .ok (.getfield 46, 3) := by decide +kernel
theorem dX1_isDirect_74 : decode cX1_isDirect 74 = .ok (.iconst 1, 1) := by decide +kernel
theorem dX1_isDirect_75 : decode cX1_isDirect 75 = .ok (.isub, 1) := by decide +kernel
theorem dX1_isDirect_76 : decode cX1_isDirect 76 = .ok (.invokevirtual 215, 3) := by decide +kernel
theorem dX1_isDirect_79 : decode cX1_isDirect 79 = .ok (.ifCond .ne 7, 3) := by decide +kernel
theorem dX1_isDirect_82 : decode cX1_isDirect 82 = .ok (.iconst 1, 1) := by decide +kernel
theorem dX1_isDirect_83 : decode cX1_isDirect 83 = .ok (.goto 4, 3) := by decide +kernel
theorem dX1_isDirect_86 : decode cX1_isDirect 86 = .ok (.iconst 0, 1) := by decide +kernel
theorem dX1_isDirect_87 : decode cX1_isDirect 87 = .ok (.ireturn, 1) := by decide +kernel
theorem dX1_isInnerUnison_0 : decode cX1_isInnerUnison 0 = .ok (.aload_n 0, 1) := by decide +kernel
theorem dX1_isInnerUnison_1 : decode cX1_isInnerUnison 1 = .ok (.getfield 53, 3) := by decide +kernel
theorem dX1_isInnerUnison_4 : decode cX1_isInnerUnison 4 = .ok (.ifCond .ne 43, 3) := by decide +kernel
theorem dX1_isInnerUnison_7 : decode cX1_isInnerUnison 7 = .ok (.aload_n 0, 1) := by decide +kernel
theorem dX1_isInnerUnison_8 : decode cX1_isInnerUnison 8 = .ok (.getfield 21, 3) := by decide +kernel
theorem dX1_isInnerUnison_11 : decode cX1_isInnerUnison 11 = .ok (.invokevirtual 117, 3) := by decide +kernel
theorem dX1_isInnerUnison_14 : decode cX1_isInnerUnison 14 = .ok (.ifCond .ne 33, 3) := by decide +kernel
theorem dX1_isInnerUnison_17 : decode cX1_isInnerUnison 17 = .ok (.aload_n 0, 1) := by decide +kernel
theorem dX1_isInnerUnison_18 : decode cX1_isInnerUnison 18 = .ok (.getfield 50, 3) := by decide +kernel
theorem dX1_isInnerUnison_21 : decode cX1_isInnerUnison 21 = .ok (.ifCond .le 26, 3) := by decide +kernel
theorem dX1_isInnerUnison_24 : decode cX1_isInnerUnison 24 = .ok (.aload_n 0, 1) := by decide +kernel
theorem dX1_isInnerUnison_25 : decode cX1_isInnerUnison 25 = .ok (.getfield 50, 3) := by decide +kernel
theorem dX1_isInnerUnison_28 : decode cX1_isInnerUnison 28 = .ok (.aload_n 0, 1) := by decide +kernel
theorem dX1_isInnerUnison_29 : decode cX1_isInnerUnison 29 = .ok (.getfield 12, 3) := by decide +kernel
theorem dX1_isInnerUnison_32 : decode cX1_isInnerUnison 32 = .ok (.getfield 82, 3) := by decide +kernel
theorem dX1_isInnerUnison_35 : decode cX1_isInnerUnison 35 = .ok (.invokevirtual 120, 3) := by decide +kernel
theorem dX1_isInnerUnison_38 : decode cX1_isInnerUnison 38 = .ok (.iconst 1, 1) := by decide +kernel
theorem dX1_isInnerUnison_39 : decode cX1_isInnerUnison 39 = .ok (.isub, 1) := by decide +kernel
theorem dX1_isInnerUnison_40 : decode cX1_isInnerUnison 40 = .ok (.if_icmp .ge 7, 3) := by decide +kernel
theorem dX1_isInnerUnison_43 : decode cX1_isInnerUnison 43 = .ok (.iconst 1, 1) := by decide +kernel
theorem dX1_isInnerUnison_44 : decode cX1_isInnerUnison 44 = .ok (.goto 4, 3) := by decide +kernel
theorem dX1_isInnerUnison_47 : decode cX1_isInnerUnison 47 = .ok (.iconst 0, 1) := by decide +kernel
theorem dX1_isInnerUnison_48 : decode cX1_isInnerUnison 48 = .ok (.ireturn, 1) := by decide +kernel
theorem dX1_isBadBegin_0 : decode cX1_isBadBegin 0 = .ok (.aload_n 0, 1) := by decide +kernel
theorem dX1_isBadBegin_1 : decode cX1_isBadBegin 1 = .ok (.getfield 12, 3) := by decide +kernel
theorem dX1_isBadBegin_4 : decode cX1_isBadBegin 4 = .ok (.getfield 95, 3) := by decide +kernel
theorem dX1_isBadBegin_7 : decode cX1_isBadBegin 7 = .ok (.iconst 0, 1) := by decide +kernel
theorem dX1_isBadBegin_8 : decode cX1_isBadBegin 8 = .ok (.invokevirtual 90, 3) := by decide +kernel
theorem dX1_isBadBegin_11 : decode cX1_isBadBegin 11 = .ok (.iconst (-1), 1) := by decide +kernel
theorem dX1_isBadBegin_12 : decode cX1_isBadBegin 12 = .ok (.if_icmp .ne 7, 3) := by decide +kernel
theorem dX1_isBadBegin_15 : decode cX1_isBadBegin 15 = .ok (.iconst 1, 1) := by decide +kernel
theorem dX1_isBadBegin_16 : decode cX1_isBadBegin 16 = .ok (.goto 4, 3) := by decide +kernel
theorem dX1_isBadBegin_19 : decode cX1_isBadBegin 19 = .ok (.iconst 0, 1) := by decide +kernel
theorem dX1_isBadBegin_20 : decode cX1_isBadBegin 20 = .ok (.istore_n 1, 1) := by decide +kernel
theorem dX1_isBadBegin_21 : decode cX1_isBadBegin 21 = .ok (.aload_n 0, 1) := by decide +kernel
theorem dX1_isBadBegin_22 : decode cX1_isBadBegin 22 = .ok (.getfield 46, 3) := by decide +kernel
theorem dX1_isBadBegin_25 : decode cX1_isBadBegin 25 = .ok (.iload_n 1, 1) := by decide +kernel
theorem dX1_isBadBegin_26 : decode cX1_isBadBegin 26 = .ok (.if_icmp .ne 40, 3) := by decide +kernel
theorem dX1_isBadBegin_29 : decode cX1_isBadBegin 29 = .ok (.aload_n 0, 1) := by decide +kernel
theorem dX1_isBadBegin_30 : decode cX1_isBadBegin 30 = .ok (.getfield 21, 3) := by decide +kernel
theorem dX1_isBadBegin_33 : decode cX1_isBadBegin 33 = .ok (.invokevirtual 179, 3) := by decide +kernel
theorem dX1_isBadBegin_36 : decode cX1_isBadBegin 36 = .ok (.bipush 8, 2) := by decide +kernel
theorem dX1_isBadBegin_38 : decode cX1_isBadBegin 38 = .ok (.if_icmp .eq 28, 3) := by decide +kernel
theorem dX1_isBadBegin_41 : decode cX1_isBadBegin 41 = .ok (.aload_n 0, 1) := by decide +kernel
theorem dX1_isBadBegin_42 : decode cX1_isBadBegin 42 = .ok (.getfield 12, 3) := by decide +kernel
theorem dX1_isBadBegin_45 : decode cX1_isBadBegin 45 = .ok (.invokevirtual 188, 3) := by decide +kernel
theorem dX1_isBadBegin_48 : decode cX1_isBadBegin 48 = .ok (.ifCond .ne 14, 3) := by decide +kernel
theorem dX1_isBadBegin_51 : decode cX1_isBadBegin 51 = .ok (.aload_n 0, 1) := by decide +kernel
theorem dX1_isBadBegin_52 : decode cX1_isBadBegin 52 = .ok (.getfield 21, 3) := by decide +kernel
theorem dX1_isBadBegin_55 : decode cX1_isBadBegin 55 = .ok (.invokevirtual 179, 3) := by decide +kernel
theorem dX1_isBadBegin_58 : decode cX1_isBadBegin 58 = .ok (.iconst 5, 1) := by decide +kernel
theorem dX1_isBadBegin_59 : decode cX1_isBadBegin 59 = .ok (.if_icmp .eq 7, 3) := by decide +kernel
theorem dX1_isBadBegin_62 : decode cX1_isBadBegin 62 = .ok (.iconst 1, 1) := by decide +kernel
theorem dX1_isBadBegin_63 : decode cX1_isBadBegin 63 = .ok (.goto 4, 3) := by decide +kernel
theorem dX1_isBadBegin_66 : decode cX1_isBadBegin 66 = .ok (.iconst 0, 1) := by decide +kernel
theorem dX1_isBadBegin_67 : decode cX1_isBadBegin 67 = .ok (.ireturn, 1) := by decide +kernel
theorem dX1_cadence_0 : decode cX1_cadence 0 = .ok (.aload_n 0, 1) := by decide +kernel
theorem dX1_cadence_1 : decode cX1_cadence 1 = .ok (.getfield 46, 3) := by decide +kernel
theorem dX1_cadence_4 : decode cX1_cadence 4 = .ok (.aload_n 0, 1) := by decide +kernel
theorem dX1_cadence_5 : decode cX1_cadence 5 = .ok (.getfield 12, 3) := by decide +kernel
theorem dX1_cadence_8 : decode cX1_cadence 8 = .ok (.getfield 95, 3) := by decide +kernel
theorem dX1_cadence_11 : decode cX1_cadence 11 = .ok (.invokevirtual 120, 3) := by decide +kernel
theorem dX1_cadence_14 : decode cX1_cadence 14 = .ok (.iconst 1, 1) := by decide +kernel
theorem dX1_cadence_15 : decode cX1_cadence 15 = .ok (.isub, 1) := by decide +kernel
theorem dX1_cadence_16 : decode cX1_cadence 16 = .ok (.if_icmp .eq 5, 3) := by decide +kernel
theorem dX1_cadence_19 : decode cX1_cadence 19 = .ok (.iconst (-1), 1) := by decide +kernel
theorem dX1_cadence_20 : decode cX1_cadence 20 = .ok (.ireturn, 1) := by decide +kernel
theorem dX1_cadence_21 : decode cX1_cadence 21 = .ok (.aload_n 0, 1) := by decide +kernel
theorem dX1_cadence_22 : decode cX1_cadence 22 = .ok (.getfield 21, 3) := by decide +kernel
theorem dX1_cadence_25 : decode cX1_cadence 25 = .ok (.invokevirtual 179, 3) := by decide +kernel
theorem dX1_cadence_28 : decode cX1_cadence 28 = .ok (.bipush 8, 2) := by decide +kernel
theorem dX1_cadence_30 : decode cX1_cadence 30 = .ok (.if_icmp .eq 5, 3) := by decide +kernel
theorem dX1_cadence_33 : decode cX1_cadence 33 = .ok (.iconst 1, 1) := by decide +kernel
theorem dX1_cadence_34 : decode cX1_cadence 34 = .ok (.ireturn, 1) := by decide +kernel
theorem dX1_cadence_35 : decode cX1_cadence 35 = .ok (.aload_n 0, 1) := by decide +kernel
theorem dX1_cadence_36 : decode cX1_cadence 36 = .ok (.getfield 34, 3) := by decide +kernel
theorem dX1_cadence_39 : decode cX1_cadence 39 = .ok (.invokevirtual 203, 3) := by decide +kernel
theorem dX1_cadence_42 : decode cX1_cadence 42 = .ok (.ifCond .ne 5, 3) := by decide +kernel
theorem dX1_cadence_45 : decode cX1_cadence 45 = .ok (.iconst 2, 1) := by decide +kernel
theorem dX1_cadence_46 : decode cX1_cadence 46 = .ok (.ireturn, 1) := by decide +kernel
theorem dX1_cadence_47 : decode cX1_cadence 47 = .ok (.aload_n 0, 1) := by decide +kernel
theorem dX1_cadence_48 : decode cX1_cadence 48 = .ok (.getfield 43, 3) := by decide +kernel
theorem dX1_cadence_51 : decode cX1_cadence 51 = .ok (.invokevirtual 203, 3) := by decide +kernel
theorem dX1_cadence_54 : decode cX1_cadence 54 = .ok (.ifCond .eq 17, 3) := by decide +kernel
theorem dX1_cadence_57 : decode cX1_cadence 57 = .ok (.aload_n 0, 1) := by decide +kernel
theorem dX1_cadence_58 : decode cX1_cadence 58 = .ok (.getfield 43, 3) := by decide +kernel
theorem dX1_cadence_61 : decode cX1_cadence 61 = .ok (.aload_n 0, 1) := by decide +kernel
theorem dX1_cadence_62 : decode cX1_cadence 62 = .ok (.getfield 34, 3) := by decide +kernel
theorem dX1_cadence_65 : decode cX1_cadence 65 = .ok (.invokevirtual 113, 3) := by decide +kernel
theorem dX1_cadence_68 : decode cX1_cadence 68 = .ok (.ifCond .ne 5, 3) := by decide +kernel
theorem dX1_cadence_71 : decode cX1_cadence 71 = .ok (.iconst 3, 1) := by decide +kernel
theorem dX1_cadence_72 : decode cX1_cadence 72 = .ok (.ireturn, 1) := by decide +kernel
theorem dX1_cadence_73 : decode cX1_cadence 73 = .ok (.aload_n 0, 1) := by decide +kernel
theorem dX1_cadence_74 : decode cX1_cadence 74 = .ok (.getfield 34, 3) := by decide +kernel
theorem dX1_cadence_77 : decode cX1_cadence 77 = .ok (.invokevirtual 109, 3) := by decide +kernel
theorem dX1_cadence_80 : decode cX1_cadence 80 = .ok (.ifCond .le 13, 3) := by decide +kernel
theorem dX1_cadence_83 : decode cX1_cadence 83 = .ok (.aload_n 0, 1) := by decide +kernel
theorem dX1_cadence_84 : decode cX1_cadence 84 = .ok (.getfield 34, 3) := by decide +kernel
theorem dX1_cadence_87 : decode cX1_cadence 87 = .ok (.invokevirtual 117, 3) := by decide +kernel
theorem dX1_cadence_90 : decode cX1_cadence 90 = .ok (.goto 10, 3) := by decide +kernel
theorem dX1_cadence_93 : decode cX1_cadence 93 = .ok (.aload_n 0, 1) := by decide +kernel
theorem dX1_cadence_94 : decode cX1_cadence 94 = .ok (.getfield 43, 3) := by decide +kernel
theorem dX1_cadence_97 : decode cX1_cadence 97 = .ok (.invokevirtual 117, 3) := by decide +kernel
theorem dX1_cadence_100 : decode cX1_cadence 100 = .ok (.iconst 1, 1) := by decide +kernel
theorem dX1_cadence_101 : decode cX1_cadence 101 = .ok (.if_icmp .ne 7, 3) := by decide +kernel
theorem dX1_cadence_104 : decode cX1_cadence 104 = .ok (.iconst (-1), 1) := by decide +kernel
theorem dX1_cadence_105 : decode cX1_cadence 105 = .ok (.goto 4, 3) := by decide +kernel
theorem dX1_cadence_108 : decode cX1_cadence 108 = .ok (.iconst 4, 1) := by decide +kernel
theorem dX1_cadence_109 : decode cX1_cadence 109 = .ok (.ireturn, 1) := by decide +kernel
theorem dX1_isBadSuspension_0 : decode cX1_isBadSuspension 0 = .ok (.aload_n 0, 1) := by decide +kernel
theorem dX1_isBadSuspension_1 : decode cX1_isBadSuspension 1 = .ok (.getfield 62, 3) := by decide +kernel
theorem dX1_isBadSuspension_4 : decode cX1_isBadSuspension 4 = .ok (.ifCond .eq 13, 3) := by decide +kernel
theorem dX1_isBadSuspension_7 : decode cX1_isBadSuspension 7 = .ok (.aload_n 0, 1) := by decide +kernel
theorem dX1_isBadSuspension_8 : decode cX1_isBadSuspension 8 = .ok (.getfield 21, 3) := by decide +kernel
theorem dX1_isBadSuspension_11 : decode cX1_isBadSuspension 11 = .ok (.invokevirtual 170, 3) := by decide +kernel
theorem dX1_isBadSuspension_14 : decode cX1_isBadSuspension 14 = .ok (.ifCond .eq 5, 3) := by decide +kernel
theorem dX1_isBadSuspension_17 : decode cX1_isBadSuspension 17 = .ok (.iconst 0, 1) := by decide +kernel
theorem dX1_isBadSuspension_18 : decode cX1_isBadSuspension 18 = .ok (.ireturn, 1) := by decide +kernel
theorem dX1_isBadSuspension_19 : decode cX1_isBadSuspension 19 = .ok (.aload_n 0, 1) := by decide +kernel
theorem dX1_isBadSuspension_20 : decode cX1_isBadSuspension 20 = .ok (.getfield 12, 3) := by decide +kernel
theorem dX1_isBadSuspension_23 : decode cX1_isBadSuspension 23 = .ok (.getfield 95, 3) := by decide +kernel
theorem dX1_isBadSuspension_26 : decode cX1_isBadSuspension 26 = .ok (.aload_n 0, 1) := by decide +kernel
theorem dX1_isBadSuspension_27 : decode cX1_isBadSuspension 27 = .ok (.getfield 46, 3) := by decide +kernel
theorem dX1_isBadSuspension_30 : decode cX1_isBadSuspension 30 = .ok (.iconst 1, 1) := by decide +kernel
theorem dX1_isBadSuspension_31 : decode cX1_isBadSuspension 31 = .ok (.iadd, 1) := by decide +kernel
theorem dX1_isBadSuspension_32 : decode cX1_isBadSuspension 32 = .ok (.invokevirtual 90, 3) := by decide +kernel
theorem dX1_isBadSuspension_35 : decode cX1_isBadSuspension 35 = .ok (.istore_n 1, 1) := by decide +kernel
theorem dX1_isBadSuspension_36 : decode cX1_isBadSuspension 36 = .ok (.iload_n 1, 1) := by decide +kernel
theorem dX1_isBadSuspension_37 : decode cX1_isBadSuspension 37 = .ok (.iconst (-1), 1) := by decide +kernel
theorem dX1_isBadSuspension_38 : decode cX1_isBadSuspension 38 = .ok (.if_icmp .eq 19, 3) := by decide +kernel
theorem dX1_isBadSuspension_41 : decode cX1_isBadSuspension 41 = .ok (.iload_n 1, 1) := by decide +kernel
theorem dX1_isBadSuspension_42 : decode cX1_isBadSuspension 42 = .ok (.invokestatic 219, 3) := by decide +kernel
theorem dX1_isBadSuspension_45 : decode cX1_isBadSuspension 45 = .ok (.aload_n 0, 1) := by decide +kernel
theorem dX1_isBadSuspension_46 : decode cX1_isBadSuspension 46 = .ok (.getfield 56, 3) := by decide +kernel
theorem dX1_isBadSuspension_49 : decode cX1_isBadSuspension 49 = .ok (.invokestatic 219, 3) := by decide +kernel
theorem dX1_isBadSuspension_52 : decode cX1_isBadSuspension 52 = .ok (.iconst 1, 1) := by decide +kernel
theorem dX1_isBadSuspension_53 : decode cX1_isBadSuspension 53 = .ok (.isub, 1) := by decide +kernel
theorem dX1_isBadSuspension_54 : decode cX1_isBadSuspension 54 = .ok (.if_icmp .eq 5, 3) := by decide +kernel
theorem dX1_isBadSuspension_57 : decode cX1_isBadSuspension 57 = .ok (.iconst 1, 1) := by decide +kernel
theorem dX1_isBadSuspension_58 : decode cX1_isBadSuspension 58 = .ok (.ireturn, 1) := by decide +kernel
theorem dX1_isBadSuspension_59 : decode cX1_isBadSuspension 59 = .ok (.aload_n 0, 1) := by decide +kernel
theorem dX1_isBadSuspension_60 : decode cX1_isBadSuspension 60 = .ok (.getfield 25, 3) := by decide +kernel
theorem dX1_isBadSuspension_63 : decode cX1_isBadSuspension 63 = .ok (.invokevirtual 170, 3) := by decide +kernel
theorem dX1_isBadSuspension_66 : decode cX1_isBadSuspension 66 = .ok (.ifCond .ne 7, 3) := by decide +kernel
theorem dX1_isBadSuspension_69 : decode cX1_isBadSuspension 69 = .ok (.iconst 1, 1) := by decide +kernel
theorem dX1_isBadSuspension_70 : decode cX1_isBadSuspension 70 = .ok (.goto 4, 3) := by decide +kernel
theorem dX1_isBadSuspension_73 : decode cX1_isBadSuspension 73 = .ok (.iconst 0, 1) := by decide +kernel
theorem dX1_isBadSuspension_74 : decode cX1_isBadSuspension 74 = .ok (.ireturn, 1) := by decide +kernel
theorem dX6_init_0 : decode cX6_init 0 = .ok (.aload_n 0, 1) := by decide +kernel
theorem dX6_init_1 : decode cX6_init 1 = .ok (.invokespecial 3, 3) := by decide +kernel
theorem dX6_init_4 : decode cX6_init 4 = .ok (.aload_n 0, 1) := by decide +kernel
theorem dX6_init_5 : decode cX6_init 5 = .ok (.new 9, 3) := by decide +kernel
theorem dX6_init_8 : decode cX6_init 8 = .ok (.dup, 1) := by decide +kernel
theorem dX6_init_9 : decode cX6_init 9 = .ok (.invokespecial 11, 3) := by decide +kernel
theorem dX6_init_12 : decode cX6_init 12 = .ok (.putfield 12, 3) := by decide +kernel
theorem dX6_init_15 : decode cX6_init 15 = .ok (.aload_n 0, 1) := by decide +kernel
theorem dX6_init_16 : decode cX6_init 16 = .ok (.new 9, 3) := by decide +kernel
theorem dX6_init_19 : decode cX6_init 19 = .ok (.dup, 1) := by decide +kernel
theorem dX6_init_20 : decode cX6_init 20 = .ok (.invokespecial 11, 3) := by decide +kernel
theorem dX6_init_23 : decode cX6_init 23 = .ok (.putfield 18, 3) := by decide +kernel
theorem dX6_init_26 : decode cX6_init 26 = .ok (.aload_n 0, 1) := by decide +kernel
theorem dX6_init_27 : decode cX6_init 27 = .ok (.iconst 1, 1) := by decide +kernel
theorem dX6_init_28 : decode cX6_init 28 = .ok (.putfield 21, 3) := by decide +kernel
theorem dX6_init_31 : decode cX6_init 31 = .ok (.aload_n 0, 1) := by decide +kernel
theorem dX6_init_32 : decode cX6_init 32 = .ok (.iconst 0, 1) := by decide +kernel
theorem dX6_init_33 : decode cX6_init 33 = .ok (.putfield 25, 3) := by decide +kernel
theorem dX6_init_36 : decode cX6_init 36 = .ok (.aload_n 0, 1) := by decide +kernel
theorem dX6_init_37 : decode cX6_init 37 = .ok (.iconst 3, 1) := by decide +kernel
theorem dX6_init_38 : decode cX6_init 38 = .ok (.newarray .int, 2) := by decide +kernel
theorem dX6_init_40 : decode cX6_init 40 = .ok (.dup, 1) := by decide +kernel
theorem dX6_init_41 : decode cX6_init 41 = .ok (.iconst 0, 1) := by decide +kernel
theorem dX6_init_42 : decode cX6_init 42 = .ok (.bipush 36, 2) := by decide +kernel
theorem dX6_init_44 : decode cX6_init 44 = .ok (.iastore, 1) := by decide +kernel
theorem dX6_init_45 : decode cX6_init 45 = .ok (.dup, 1) := by decide +kernel
theorem dX6_init_46 : decode cX6_init 46 = .ok (.iconst 1, 1) := by decide +kernel
theorem dX6_init_47 : decode cX6_init 47 = .ok (.bipush 72, 2) := by decide +kernel
theorem dX6_init_49 : decode cX6_init 49 = .ok (.iastore, 1) := by decide +kernel
theorem dX6_init_50 : decode cX6_init 50 = .ok (.dup, 1) := by decide +kernel
theorem dX6_init_51 : decode cX6_init 51 = .ok (.iconst 2, 1) := by decide +kernel
theorem dX6_init_52 : decode cX6_init 52 = .ok (.bipush 16, 2) := by decide +kernel
theorem dX6_init_54 : decode cX6_init 54 = .ok (.iastore, 1) := by decide +kernel
theorem dX6_init_55 : decode cX6_init 55 = .ok (.putfield 29, 3) := by decide +kernel
theorem dX6_init_58 : decode cX6_init 58 = .ok (.aload_n 0, 1) := by decide +kernel
theorem dX6_init_59 : decode cX6_init 59 = .ok (.bipush 17, 2) := by decide +kernel
theorem dX6_init_61 : decode cX6_init 61 = .ok (.newarray .int, 2) := by decide +kernel
theorem dX6_init_63 : decode cX6_init 63 = .ok (.dup, 1) := by decide +kernel
theorem dX6_init_64 : decode cX6_init 64 = .ok (.iconst 0, 1) := by decide +kernel
theorem dX6_init_65 : decode cX6_init 65 = .ok (.iconst 0, 1) := by decide +kernel
theorem dX6_init_66 : decode cX6_init 66 = .ok (.iastore, 1) := by decide +kernel
theorem dX6_init_67 : decode cX6_init 67 = .ok (.dup, 1) := by decide +kernel
theorem dX6_init_68 : decode cX6_init 68 = .ok (.iconst 1, 1) := by decide +kernel
theorem dX6_init_69 : decode cX6_init 69 = .ok (.iconst 1, 1) := by decide +kernel
theorem dX6_init_70 : decode cX6_init 70 = .ok (.iastore, 1) := by decide +kernel
theorem dX6_init_71 : decode cX6_init 71 = .ok (.dup, 1) := by decide +kernel
theorem dX6_init_72 : decode cX6_init 72 = .ok (.iconst 2, 1) := by decide +kernel
theorem dX6_init_73 : decode cX6_init 73 = .ok (.iconst 1, 1) := by decide +kernel
theorem dX6_init_74 : decode cX6_init 74 = .ok (.iastore, 1) := by decide +kernel
theorem dX6_init_75 : decode cX6_init 75 = .ok (.dup, 1) := by decide +kernel
theorem dX6_init_76 : decode cX6_init 76 = .ok (.iconst 3, 1) := by decide +kernel
theorem dX6_init_77 : decode cX6_init 77 = .ok (.iconst 1, 1) := by decide +kernel
theorem dX6_init_78 : decode cX6_init 78 = .ok (.iastore, 1) := by decide +kernel
theorem dX6_init_79 : decode cX6_init 79 = .ok (.dup, 1) := by decide +kernel
theorem dX6_init_80 : decode cX6_init 80 = .ok (.iconst 4, 1) := by decide +kernel
theorem dX6_init_81 : decode cX6_init 81 = .ok (.iconst 1, 1) := by decide +kernel
theorem dX6_init_82 : decode cX6_init 82 = .ok (.iastore, 1) := by decide +kernel
theorem dX6_init_83 : decode cX6_init 83 = .ok (.dup, 1) := by decide +kernel
theorem dX6_init_84 : decode cX6_init 84 = .ok (.iconst 5, 1) := by decide +kernel
theorem dX6_init_85 : decode cX6_init 85 = .ok (.iconst 1, 1) := by decide +kernel
theorem dX6_init_86 : decode cX6_init 86 = .ok (.iastore, 1) := by decide +kernel
theorem dX6_init_87 : decode cX6_init 87 = .ok (.dup, 1) := by decide +kernel
theorem dX6_init_88 : decode cX6_init 88 = .ok (.bipush 6, 2) := by decide +kernel
theorem dX6_init_90 : decode cX6_init 90 = .ok (.iconst 1, 1) := by decide +kernel
theorem dX6_init_91 : decode cX6_init 91 = .ok (.iastore, 1) := by decide +kernel
theorem dX6_init_92 : decode cX6_init 92 = .ok (.dup, 1) := by decide +kernel
theorem dX6_init_93 : decode cX6_init 93 = .ok (.bipush 7, 2) := by decide +kernel
theorem dX6_init_95 : decode cX6_init 95 = .ok (.iconst 1, 1) := by decide +kernel
theorem dX6_init_96 : decode cX6_init 96 = .ok (.iastore, 1) := by decide +kernel
theorem dX6_init_97 : decode cX6_init 97 = .ok (.dup, 1) := by decide +kernel
theorem dX6_init_98 : decode cX6_init 98 = .ok (.bipush 8, 2) := by decide +kernel
theorem dX6_init_100 : decode cX6_init 100 = .ok (.iconst 1, 1) := by decide +kernel
theorem dX6_init_101 : decode cX6_init 101 = .ok (.iastore, 1) := by decide +kernel
theorem dX6_init_102 : decode cX6_init 102 = .ok (.dup, 1) := by decide +kernel
theorem dX6_init_103 : decode cX6_init 103 = .ok (.bipush 9, 2) := by decide +kernel
theorem dX6_init_105 : decode cX6_init 105 = .ok (.iconst 1, 1) := by decide +kernel
theorem dX6_init_106 : decode cX6_init 106 = .ok (.iastore, 1) := by decide +kernel
theorem dX6_init_107 : decode cX6_init 107 = .ok (.dup, 1) := by decide +kernel
theorem dX6_init_108 : decode cX6_init 108 = .ok (.bipush 10, 2) := by decide +kernel
theorem dX6_init_110 : decode cX6_init 110 = .ok (.iconst 1, 1) := by decide +kernel
theorem dX6_init_111 : decode cX6_init 111 = .ok (.iastore, 1) := by decide +kernel
theorem dX6_init_112 : decode cX6_init 112 = .ok (.dup, 1) := by decide +kernel
theorem dX6_init_113 : decode cX6_init 113 = .ok (.bipush 11, 2) := by decide +kernel
theorem dX6_init_115 : decode cX6_init 115 = .ok (.iconst 1, 1) := by decide +kernel
theorem dX6_init_116 : decode cX6_init 116 = .ok (.iastore, 1) := by decide +kernel
theorem dX6_init_117 : decode cX6_init 117 = .ok (.dup, 1) := by decide +kernel
theorem dX6_init_118 : decode cX6_init 118 = .ok (.bipush 12, 2) := by decide +kernel
theorem dX6_init_120 : decode cX6_init 120 = .ok (.iconst 1, 1) := by decide +kernel
theorem dX6_init_121 : decode cX6_init 121 = .ok (.iastore, 1) := by decide +kernel
theorem dX6_init_122 : decode cX6_init 122 = .ok (.dup, 1) := by decide +kernel
theorem dX6_init_123 : decode cX6_init 123 = .ok (.bipush 13, 2) := by decide +kernel
theorem dX6_init_125 : decode cX6_init 125 = .ok (.iconst 1, 1) := by decide +kernel
theorem dX6_init_126 : decode cX6_init 126 = .ok (.iastore, 1) := by decide +kernel
theorem dX6_init_127 : decode cX6_init 127 = .ok (.dup, 1) := by decide +kernel
theorem dX6_init_128 : decode cX6_init 128 = .ok (.bipush 14, 2) := by decide +kernel
theorem dX6_init_130 : decode cX6_init 130 = .ok (.iconst 1, 1) := by decide +kernel
theorem dX6_init_131 : decode cX6_init 131 = .ok (.iastore, 1) := by decide +kernel
theorem dX6_init_132 : decode cX6_init 132 = .ok (.dup, 1) := by decide +kernel
theorem dX6_init_133 : decode cX6_init 133 = .ok (.bipush 15, 2) := by decide +kernel
theorem dX6_init_135 : decode cX6_init 135 = .ok (.iconst 1, 1) := by decide +kernel
theorem dX6_init_136 : decode cX6_init 136 = .ok (.iastore, 1) := by decide +kernel
theorem dX6_init_137 : decode cX6_init 137 = .ok (.dup, 1) := by decide +kernel
theorem dX6_init_138 : decode cX6_init 138 = .ok (.bipush 16, 2) := by decide +kernel
theorem dX6_init_140 : decode cX6_init 140 = .ok (.iconst 1, 1) := by decide +kernel
theorem dX6_init_141 : decode cX6_init 141 = .ok (.iastore, 1) := by decide +kernel
theorem dX6_init_142 : decode cX6_init 142 = .ok (.putfield 33, 3) := by decide +kernel
theorem dX6_init_145 : decode cX6_init 145 = .ok (.return_, 1) := by decide +kernel
theorem dX6_species_0 : decode cX6_species 0 = .ok (.aload_n 0, 1) := by decide +kernel
theorem dX6_species_1 : decode cX6_species 1 = .ok (.getfield 21, 3) := by decide +kernel
theorem dX6_species_4 : decode cX6_species 4 = .ok (.ireturn, 1) := by decide +kernel
theorem dX6_makeSpecies_0 : decode cX6_makeSpecies 0 = .ok (.iload_n 1, 1) := by decide +kernel
theorem dX6_makeSpecies_1 : decode cX6_makeSpecies 1 = .ok (.aload_n 0, 1) := by decide +kernel
theorem dX6_makeSpecies_2 : decode cX6_makeSpecies 2 = .ok (.getfield 21, 3) := by decide +kernel
theorem dX6_makeSpecies_5 : decode cX6_makeSpecies 5 = .ok (.if_icmp .eq 15, 3) := by decide +kernel
theorem dX6_makeSpecies_8 : decode cX6_makeSpecies 8 = .ok (.aload_n 0, 1) := by decide +kernel
theorem dX6_makeSpecies_9 : decode cX6_makeSpecies 9 = .ok (.iload_n 1, 1) := by decide +kernel
theorem dX6_makeSpecies_10 : decode cX6_makeSpecies 10 = .ok (.putfield 21, 3) := by decide +kernel
theorem dX6_makeSpecies_13 : decode cX6_makeSpecies 13 = .ok (.aload_n 0, 1) := by decide +kernel
theorem dX6_makeSpecies_14 : decode cX6_makeSpecies 14 = .ok (.getfield 18, 3) := by decide +kernel
theorem dX6_makeSpecies_17 : decode cX6_makeSpecies 17 = .ok (.invokevirtual 36, 3) := by decide +kernel
theorem dX6_makeSpecies_20 : decode cX6_makeSpecies 20 = .ok (.return_, 1) := by decide +kernel
theorem dX6_isBelow_0 : decode cX6_isBelow 0 = .ok (.aload_n 0, 1) := by decide +kernel
theorem dX6_isBelow_1 : decode cX6_isBelow 1 = .ok (.getfield 25, 3) := by decide +kernel
theorem dX6_isBelow_4 : decode cX6_isBelow 4 = .ok (.ireturn, 1) := by decide +kernel
theorem dX6_makeBelow_0 : decode cX6_makeBelow 0 = .ok (.aload_n 0, 1) := by decide +kernel
theorem dX6_makeBelow_1 : decode cX6_makeBelow 1 = .ok (.iload_n 1, 1) := by decide +kernel
theorem dX6_makeBelow_2 : decode cX6_makeBelow 2 = .ok (.putfield 25, 3) := by decide +kernel
theorem dX6_makeBelow_5 : decode cX6_makeBelow 5 = .ok (.return_, 1) := by decide +kernel
theorem dX6_settingOf_0 : decode cX6_settingOf 0 = .ok (.iload_n 1, 1) := by decide +kernel
theorem dX6_settingOf_1 : decode cX6_settingOf 1 = .ok (.ifCond .lt 17, 3) := by decide +kernel
theorem dX6_settingOf_4 : decode cX6_settingOf 4 = .ok (.iload_n 1, 1) := by decide +kernel
theorem dX6_settingOf_5 : decode cX6_settingOf 5 = .ok (.iconst 3, 1) := by decide +kernel
theorem dX6_settingOf_6 : decode cX6_settingOf 6 = .ok (.if_icmp .ge 12, 3) := by decide +kernel
theorem dX6_settingOf_9 : decode cX6_settingOf 9 = .ok (.aload_n 0, 1) := by decide +kernel
theorem dX6_settingOf_10 : decode cX6_settingOf 10 = .ok (.getfield 29, 3) := by decide +kernel
theorem dX6_settingOf_13 : decode cX6_settingOf 13 = .ok (.iload_n 1, 1) := by decide +kernel
theorem dX6_settingOf_14 : decode cX6_settingOf 14 = .ok (.iaload, 1) := by decide +kernel
theorem dX6_settingOf_15 : decode cX6_settingOf 15 = .ok (.goto 4, 3) := by decide +kernel
theorem dX6_settingOf_18 : decode cX6_settingOf 18 = .ok (.iconst 0, 1) := by decide +kernel
theorem dX6_settingOf_19 : decode cX6_settingOf 19 = .ok (.ireturn, 1) := by decide +kernel
theorem dX6_allowsSetting_0 : decode cX6_allowsSetting 0 = .ok (.iload_n 1, 1) := by decide +kernel
theorem dX6_allowsSetting_1 : decode cX6_allowsSetting 1 = .ok (.ifCond .lt 26, 3) := by decide +kernel
theorem dX6_allowsSetting_4 : decode cX6_allowsSetting 4 = .ok (.iload_n 1, 1) := by decide +kernel
theorem dX6_allowsSetting_5 : decode cX6_allowsSetting 5 = .ok (.iconst 3, 1) := by decide +kernel
theorem dX6_allowsSetting_6 : decode cX6_allowsSetting 6 = .ok (.if_icmp .ge 21, 3) := by decide +kernel
theorem dX6_allowsSetting_9 : decode cX6_allowsSetting 9 = .ok (.iload_n 2, 1) := by decide +kernel
theorem dX6_allowsSetting_10 : decode cX6_allowsSetting 10 = .ok (.getstatic 39, 3) := by decide +kernel
theorem dX6_allowsSetting_13 : decode cX6_allowsSetting 13 = .ok (.iload_n 1, 1) := by decide +kernel
theorem dX6_allowsSetting_14 : decode cX6_allowsSetting 14 = .ok (.iaload, 1) := by decide +kernel
theorem dX6_allowsSetting_15 : decode cX6_allowsSetting 15 = .ok (.if_icmp .lt 12, 3) := by decide +kernel
theorem dX6_allowsSetting_18 : decode cX6_allowsSetting 18 = .ok (.iload_n 2, 1) := by decide +kernel
theorem dX6_allowsSetting_19 : decode cX6_allowsSetting 19 = .ok (.getstatic 42, 3) := by decide +kernel
theorem dX6_allowsSetting_22 : decode cX6_allowsSetting 22 = .ok (.iload_n 1, 1) := by decide +kernel
theorem dX6_allowsSetting_23 : decode cX6_allowsSetting 23 = .ok (.iaload, 1) := by decide +kernel
theorem dX6_allowsSetting_24 : decode cX6_allowsSetting 24 = .ok (.if_icmp .le 5, 3) := by decide +kernel
theorem dX6_allowsSetting_27 : decode cX6_allowsSetting 27 = .ok (.iconst 0, 1) := by decide +kernel
theorem dX6_allowsSetting_28 : decode cX6_allowsSetting 28 = .ok (.ireturn, 1) := by decide +kernel
theorem dX6_allowsSetting_29 : decode cX6_allowsSetting 29 = .ok (.iload_n 1, 1) := by decide +kernel
theorem dX6_allowsSetting_30 : decode cX6_allowsSetting 30 = .ok (.ifCond .ne 7, 3) := by decide +kernel
theorem dX6_allowsSetting_33 : decode cX6_allowsSetting 33 = .ok (.iload_n 2, 1) := by decide +kernel
theorem dX6_allowsSetting_34 : decode cX6_allowsSetting 34 = .ok (.goto 9, 3) := by decide +kernel
theorem dX6_allowsSetting_37 : decode cX6_allowsSetting 37 = .ok (.aload_n 0, 1) := by decide +kernel
theorem dX6_allowsSetting_38 : decode cX6_allowsSetting 38 = .ok (.getfield 29, 3) := by decide +kernel
theorem dX6_allowsSetting_41 : decode cX6_allowsSetting 41 = .ok (.iconst 0, 1) := by decide +kernel
theorem dX6_allowsSetting_42 : decode cX6_allowsSetting 42 = .ok (.iaload, 1) := by decide +kernel
theorem dX6_allowsSetting_43 : decode cX6_allowsSetting 43 = .ok (.istore_n 3, 1) := by decide +kernel
theorem dX6_allowsSetting_44 : decode cX6_allowsSetting 44 = .ok (.iload_n 1, 1) := by decide +kernel
theorem dX6_allowsSetting_45 : decode cX6_allowsSetting 45 = .ok (.iconst 1, 1) := by decide +kernel
theorem dX6_allowsSetting_46 : decode cX6_allowsSetting 46 = .ok (.if_icmp .ne 7, 3) := by decide +kernel
theorem dX6_allowsSetting_49 : decode cX6_allowsSetting 49 = .ok (.iload_n 2, 1) := by decide +kernel
theorem dX6_allowsSetting_50 : decode cX6_allowsSetting 50 = .ok (.goto 9, 3) := by decide +kernel
theorem dX6_allowsSetting_53 : decode cX6_allowsSetting 53 = .ok (.aload_n 0, 1) := by decide +kernel
theorem dX6_allowsSetting_54 : decode cX6_allowsSetting 54 = .ok (.getfield 29, 3) := by decide +kernel
theorem dX6_allowsSetting_57 : decode cX6_allowsSetting 57 = .ok (.iconst 1, 1) := by decide +kernel
theorem dX6_allowsSetting_58 : decode cX6_allowsSetting 58 = .ok (.iaload, 1) := by decide +kernel
theorem dX6_allowsSetting_59 : decode cX6_allowsSetting 59 = .ok (.istore 4, 2) := by decide +kernel
theorem dX6_allowsSetting_61 : decode cX6_allowsSetting 61 = .ok (.iload_n 3, 1) := by decide +kernel
theorem dX6_allowsSetting_62 : decode cX6_allowsSetting 62 = .ok (.iload 4, 2) := by decide +kernel
theorem dX6_allowsSetting_64 : decode cX6_allowsSetting 64 = .ok (.if_icmp .gt 7, 3) := by decide +kernel
theorem dX6_allowsSetting_67 : decode cX6_allowsSetting 67 = .ok (.iconst 1, 1) := by decide +kernel
theorem dX6_allowsSetting_68 : decode cX6_allowsSetting 68 = .ok (.goto 4, 3) := by decide +kernel
theorem dX6_allowsSetting_71 : decode cX6_allowsSetting 71 = .ok (.iconst 0, 1) := by decide +kernel
theorem dX6_allowsSetting_72 : decode cX6_allowsSetting 72 = .ok (.ireturn, 1) := by decide +kernel
theorem dX6_makeSetting_0 : decode cX6_makeSetting 0 = .ok (.iload_n 1, 1) := by decide +kernel
theorem dX6_makeSetting_1 : decode cX6_makeSetting 1 = .ok (.ifCond .lt 15, 3) := by decide +kernel
theorem dX6_makeSetting_4 : decode cX6_makeSetting 4 = .ok (.iload_n 1, 1) := by decide +kernel
theorem dX6_makeSetting_5 : decode cX6_makeSetting 5 = .ok (.iconst 3, 1) := by decide +kernel
theorem dX6_makeSetting_6 : decode cX6_makeSetting 6 = .ok (.if_icmp .ge 10, 3) := by decide +kernel
theorem dX6_makeSetting_9 : decode cX6_makeSetting 9 = .ok (.aload_n 0, 1) := by decide +kernel
theorem dX6_makeSetting_10 : decode cX6_makeSetting 10 = .ok (.getfield 29, 3) := by decide +kernel
theorem dX6_makeSetting_13 : decode cX6_makeSetting 13 = .ok (.iload_n 1, 1) := by decide +kernel
theorem dX6_makeSetting_14 : decode cX6_makeSetting 14 = .ok (.iload_n 2, 1) := by decide +kernel
theorem dX6_makeSetting_15 : decode cX6_makeSetting 15 = .ok (.iastore, 1) := by decide +kernel
theorem dX6_makeSetting_16 : decode cX6_makeSetting 16 = .ok (.return_, 1) := by decide +kernel
theorem dX6_allowsPitch_0 : decode cX6_allowsPitch 0 = .ok (.iload_n 1, 1) := by decide +kernel
theorem dX6_allowsPitch_1 : decode cX6_allowsPitch 1 = .ok (.aload_n 0, 1) := by decide +kernel
theorem dX6_allowsPitch_2 : decode cX6_allowsPitch 2 = .ok (.getfield 29, 3) := by decide +kernel
theorem dX6_allowsPitch_5 : decode cX6_allowsPitch 5 = .ok (.iconst 0, 1) := by decide +kernel
theorem dX6_allowsPitch_6 : decode cX6_allowsPitch 6 = .ok (.iaload, 1) := by decide +kernel
theorem dX6_allowsPitch_7 : decode cX6_allowsPitch 7 = .ok (.if_icmp .lt 17, 3) := by decide +kernel
theorem dX6_allowsPitch_10 : decode cX6_allowsPitch 10 = .ok (.iload_n 1, 1) := by decide +kernel
theorem dX6_allowsPitch_11 : decode cX6_allowsPitch 11 = .ok (.aload_n 0, 1) := by decide +kernel
theorem dX6_allowsPitch_12 : decode cX6_allowsPitch 12 = .ok (.getfield 29, 3) := by decide +kernel
theorem dX6_allowsPitch_15 : decode cX6_allowsPitch 15 = .ok (.iconst 1, 1) := by decide +kernel
theorem dX6_allowsPitch_16 : decode cX6_allowsPitch 16 = .ok (.iaload, 1) := by decide +kernel
theorem dX6_allowsPitch_17 : decode cX6_allowsPitch 17 = .ok (.if_icmp .gt 7, 3) := by decide +kernel
theorem dX6_allowsPitch_20 : decode cX6_allowsPitch 20 = .ok (.iconst 1, 1) := by decide +kernel
theorem dX6_allowsPitch_21 : decode cX6_allowsPitch 21 = .ok (.goto 4, 3) := by decide +kernel
theorem dX6_allowsPitch_24 : decode cX6_allowsPitch 24 = .ok (.iconst 0, 1) := by decide +kernel
theorem dX6_allowsPitch_25 : decode cX6_allowsPitch 25 = .ok (.ireturn, 1) := by decide +kernel
theorem dX6_weightOf_0 : decode cX6_weightOf 0 = .ok (.iload_n 1, 1) := by decide +kernel
theorem dX6_weightOf_1 : decode cX6_weightOf 1 = .ok (.iconst 1, 1) := by decide +kernel
theorem dX6_weightOf_2 : decode cX6_weightOf 2 = .ok (.if_icmp .lt 18, 3) := by decide +kernel
theorem dX6_weightOf_5 : decode cX6_weightOf 5 = .ok (.iload_n 1, 1) := by decide +kernel
theorem dX6_weightOf_6 : decode cX6_weightOf 6 = .ok (.bipush 16, 2) := by decide +kernel
theorem dX6_weightOf_8 : decode cX6_weightOf 8 = .ok (.if_icmp .gt 12, 3) := by decide +kernel
theorem dX6_weightOf_11 : decode cX6_weightOf 11 = .ok (.aload_n 0, 1) := by decide +kernel
theorem dX6_weightOf_12 : decode cX6_weightOf 12 = .ok (.getfield 33, 3) := by decide +kernel
theorem dX6_weightOf_15 : decode cX6_weightOf 15 = .ok (.iload_n 1, 1) := by decide +kernel
theorem dX6_weightOf_16 : decode cX6_weightOf 16 = .ok (.iaload, 1) := by decide +kernel
theorem dX6_weightOf_17 : decode cX6_weightOf 17 = .ok (.goto 4, 3) := by decide +kernel
theorem dX6_weightOf_20 : decode cX6_weightOf 20 = .ok (.iconst 0, 1) := by decide +kernel
theorem dX6_weightOf_21 : decode cX6_weightOf 21 = .ok (.ireturn, 1) := by decide +kernel
theorem dX6_makeWeight_0 : decode cX6_makeWeight 0 = .ok (.iload_n 1, 1) := by decide +kernel
theorem dX6_makeWeight_1 : decode cX6_makeWeight 1 = .ok (.iconst 1, 1) := by decide +kernel
theorem dX6_makeWeight_2 : decode cX6_makeWeight 2 = .ok (.if_icmp .lt 16, 3) := by decide +kernel
theorem dX6_makeWeight_5 : decode cX6_makeWeight 5 = .ok (.iload_n 1, 1) := by decide +kernel
theorem dX6_makeWeight_6 : decode cX6_makeWeight 6 = .ok (.bipush 16, 2) := by decide +kernel
theorem dX6_makeWeight_8 : decode cX6_makeWeight 8 = .ok (.if_icmp .gt 10, 3) := by decide +kernel
theorem dX6_makeWeight_11 : decode cX6_makeWeight 11 = .ok (.aload_n 0, 1) := by decide +kernel
theorem dX6_makeWeight_12 : decode cX6_makeWeight 12 = .ok (.getfield 33, 3) := by decide +kernel
theorem dX6_makeWeight_15 : decode cX6_makeWeight 15 = .ok (.iload_n 1, 1) := by decide +kernel
theorem dX6_makeWeight_16 : decode cX6_makeWeight 16 = .ok (.iload_n 2, 1) := by decide +kernel
theorem dX6_makeWeight_17 : decode cX6_makeWeight 17 = .ok (.iastore, 1) := by decide +kernel
theorem dX6_makeWeight_18 : decode cX6_makeWeight 18 = .ok (.return_, 1) := by decide +kernel
theorem dX6_sumOfWeights_0 : decode cX6_sumOfWeights 0 = .ok (.iconst 0, 1) := by decide +kernel
theorem dX6_sumOfWeights_1 : decode cX6_sumOfWeights 1 = .ok (.istore_n 1, 1) := by decide +kernel
theorem dX6_sumOfWeights_2 : decode cX6_sumOfWeights 2 = .ok (.iconst 1, 1) := by decide +kernel
theorem dX6_sumOfWeights_3 : decode cX6_sumOfWeights 3 = .ok (.istore_n 2, 1) := by decide +kernel
theorem dX6_sumOfWeights_4 : decode cX6_sumOfWeights 4 = .ok (.iload_n 2, 1) := by decide +kernel
theorem dX6_sumOfWeights_5 : decode cX6_sumOfWeights 5 = .ok (.bipush 16, 2) := by decide +kernel
theorem dX6_sumOfWeights_7 : decode cX6_sumOfWeights 7 = .ok (.if_icmp .gt 18, 3) := by decide +kernel
theorem dX6_sumOfWeights_10 : decode cX6_sumOfWeights 10 = .ok (.iload_n 1, 1) := by decide +kernel
theorem dX6_sumOfWeights_11 : decode cX6_sumOfWeights 11 = .ok (.aload_n 0, 1) := by decide +kernel
theorem dX6_sumOfWeights_12 : decode cX6_sumOfWeights 12 = .ok (.getfield 33, 3) := by decide +kernel
theorem dX6_sumOfWeights_15 : decode cX6_sumOfWeights 15 = .ok (.iload_n 2, 1) := by decide +kernel
theorem dX6_sumOfWeights_16 : decode cX6_sumOfWeights 16 = .ok (.iaload, 1) := by decide +kernel
theorem dX6_sumOfWeights_17 : decode cX6_sumOfWeights 17 = .ok (.iadd, 1) := by decide +kernel
theorem dX6_sumOfWeights_18 : decode cX6_sumOfWeights 18 = .ok (.istore_n 1, 1) := by decide +kernel
theorem dX6_sumOfWeights_19 : decode cX6_sumOfWeights 19 = .ok (.iinc 2 1, 3) := by decide +kernel
theorem dX6_sumOfWeights_22 : decode cX6_sumOfWeights 22 = .ok (.goto (-18), 3) := by decide +kernel
theorem dX6_sumOfWeights_25 : decode cX6_sumOfWeights 25 = .ok (.iload_n 1, 1) := by decide +kernel
theorem dX6_sumOfWeights_26 : decode cX6_sumOfWeights 26 = .ok (.ireturn, 1) := by decide +kernel
theorem dX6_beatBits_0 : decode cX6_beatBits 0 = .ok (.aload_n 0, 1) := by decide +kernel
theorem dX6_beatBits_1 : decode cX6_beatBits 1 = .ok (.getfield 21, 3) := by decide +kernel
theorem dX6_beatBits_4 : decode cX6_beatBits 4 = .ok (.iconst 1, 1) := by decide +kernel
theorem dX6_beatBits_5 : decode cX6_beatBits 5 = .ok (.if_icmp .ne 7, 3) := by decide +kernel
theorem dX6_beatBits_8 : decode cX6_beatBits 8 = .ok (.iconst 0, 1) := by decide +kernel
theorem dX6_beatBits_9 : decode cX6_beatBits 9 = .ok (.goto 16, 3) := by decide +kernel
theorem dX6_beatBits_12 : decode cX6_beatBits 12 = .ok (.aload_n 0, 1) := by decide +kernel
theorem dX6_beatBits_13 : decode cX6_beatBits 13 = .ok (.getfield 21, 3) := by decide +kernel
theorem dX6_beatBits_16 : decode cX6_beatBits 16 = .ok (.iconst 3, 1) := by decide +kernel
theorem dX6_beatBits_17 : decode cX6_beatBits 17 = .ok (.if_icmp .ne 7, 3) := by decide +kernel
theorem dX6_beatBits_20 : decode cX6_beatBits 20 = .ok (.iconst 2, 1) := by decide +kernel
theorem dX6_beatBits_21 : decode cX6_beatBits 21 = .ok (.goto 4, 3) := by decide +kernel
theorem dX6_beatBits_24 : decode cX6_beatBits 24 = .ok (.iconst 1, 1) := by decide +kernel
theorem dX6_beatBits_25 : decode cX6_beatBits 25 = .ok (.ireturn, 1) := by decide +kernel
theorem dX6_barOf_0 : decode cX6_barOf 0 = .ok (.iload_n 1, 1) := by decide +kernel
theorem dX6_barOf_1 : decode cX6_barOf 1 = .ok (.aload_n 0, 1) := by decide +kernel
theorem dX6_barOf_2 : decode cX6_barOf 2 = .ok (.invokevirtual 45, 3) := by decide +kernel
theorem dX6_barOf_5 : decode cX6_barOf 5 = .ok (.ishr, 1) := by decide +kernel
theorem dX6_barOf_6 : decode cX6_barOf 6 = .ok (.ireturn, 1) := by decide +kernel
theorem dX6_beatOf_0 : decode cX6_beatOf 0 = .ok (.iload_n 1, 1) := by decide +kernel
theorem dX6_beatOf_1 : decode cX6_beatOf 1 = .ok (.iconst 1, 1) := by decide +kernel
theorem dX6_beatOf_2 : decode cX6_beatOf 2 = .ok (.aload_n 0, 1) := by decide +kernel
theorem dX6_beatOf_3 : decode cX6_beatOf 3 = .ok (.invokevirtual 45, 3) := by decide +kernel
theorem dX6_beatOf_6 : decode cX6_beatOf 6 = .ok (.ishl, 1) := by decide +kernel
theorem dX6_beatOf_7 : decode cX6_beatOf 7 = .ok (.iconst 1, 1) := by decide +kernel
theorem dX6_beatOf_8 : decode cX6_beatOf 8 = .ok (.isub, 1) := by decide +kernel
theorem dX6_beatOf_9 : decode cX6_beatOf 9 = .ok (.iand, 1) := by decide +kernel
theorem dX6_beatOf_10 : decode cX6_beatOf 10 = .ok (.ireturn, 1) := by decide +kernel
theorem dX6_firstPlaceIn_0 : decode cX6_firstPlaceIn 0 = .ok (.iload_n 1, 1) := by decide +kernel
theorem dX6_firstPlaceIn_1 : decode cX6_firstPlaceIn 1 = .ok (.aload_n 0, 1) := by decide +kernel
theorem dX6_firstPlaceIn_2 : decode cX6_firstPlaceIn 2 = .ok (.invokevirtual 45, 3) := by decide +kernel
theorem dX6_firstPlaceIn_5 : decode cX6_firstPlaceIn 5 = .ok (.ishl, 1) := by decide +kernel
theorem dX6_firstPlaceIn_6 : decode cX6_firstPlaceIn 6 = .ok (.ireturn, 1) := by decide +kernel
theorem dX6_placeOf_0 : decode cX6_placeOf 0 = .ok (.iload_n 1, 1) := by decide +kernel
theorem dX6_placeOf_1 : decode cX6_placeOf 1 = .ok (.ifCond .lt 14, 3) := by decide +kernel
theorem dX6_placeOf_4 : decode cX6_placeOf 4 = .ok (.iload_n 1, 1) := by decide +kernel
theorem dX6_placeOf_5 : decode cX6_placeOf 5 = .ok (.aload_n 0, 1) := by decide +kernel
theorem dX6_placeOf_6 : decode cX6_placeOf 6 = .ok (.getfield 12, 3) := by decide +kernel
theorem dX6_placeOf_9 : decode cX6_placeOf 9 = .ok (.invokevirtual 49, 3) := by decide +kernel
theorem dX6_placeOf_12 : decode cX6_placeOf 12 = .ok (.if_icmp .lt 5, 3) := by decide +kernel
theorem dX6_placeOf_15 : decode cX6_placeOf 15 = .ok (.iconst (-1), 1) := by decide +kernel
theorem dX6_placeOf_16 : decode cX6_placeOf 16 = .ok (.ireturn, 1) := by decide +kernel
theorem dX6_placeOf_17 : decode cX6_placeOf 17 = .ok (.iload_n 1, 1) := by decide +kernel
theorem dX6_placeOf_18 : decode cX6_placeOf 18 = .ok (.aload_n 0, 1) := by decide +kernel
theorem dX6_placeOf_19 : decode cX6_placeOf 19 = .ok (.getfield 12, 3) := by decide +kernel
theorem dX6_placeOf_22 : decode cX6_placeOf 22 = .ok (.invokevirtual 49, 3) := by decide +kernel
theorem dX6_placeOf_25 : decode cX6_placeOf 25 = .ok (.iconst 1, 1) := by decide +kernel
theorem dX6_placeOf_26 : decode cX6_placeOf 26 = .ok (.isub, 1) := by decide +kernel
theorem dX6_placeOf_27 : decode cX6_placeOf 27 = .ok (.if_icmp .ne 7, 3) := by decide +kernel
theorem dX6_placeOf_30 : decode cX6_placeOf 30 = .ok (.iconst 1, 1) := by decide +kernel
theorem dX6_placeOf_31 : decode cX6_placeOf 31 = .ok (.goto 9, 3) := by decide +kernel
theorem dX6_placeOf_34 : decode cX6_placeOf 34 = .ok (.iconst 1, 1) := by decide +kernel
theorem dX6_placeOf_35 : decode cX6_placeOf 35 = .ok (.aload_n 0, 1) := by decide +kernel
theorem dX6_placeOf_36 : decode cX6_placeOf 36 = .ok (.invokevirtual 45, 3) := by decide +kernel
theorem dX6_placeOf_39 : decode cX6_placeOf 39 = .ok (.ishl, 1) := by decide +kernel
theorem dX6_placeOf_40 : decode cX6_placeOf 40 = .ok (.istore_n 3, 1) := by decide +kernel
theorem dX6_placeOf_41 : decode cX6_placeOf 41 = .ok (.iload_n 2, 1) := by decide +kernel
theorem dX6_placeOf_42 : decode cX6_placeOf 42 = .ok (.ifCond .lt 18, 3) := by decide +kernel
theorem dX6_placeOf_45 : decode cX6_placeOf 45 = .ok (.iload_n 2, 1) := by decide +kernel
theorem dX6_placeOf_46 : decode cX6_placeOf 46 = .ok (.iload_n 3, 1) := by decide +kernel
theorem dX6_placeOf_47 : decode cX6_placeOf 47 = .ok (.if_icmp .ge 13, 3) := by decide +kernel
theorem dX6_placeOf_50 : decode cX6_placeOf 50 = .ok (.aload_n 0, 1) := by decide +kernel
theorem dX6_placeOf_51 : decode cX6_placeOf 51 = .ok (.iload_n 1, 1) := by decide +kernel
theorem dX6_placeOf_52 : decode cX6_placeOf 52 = .ok (.invokevirtual 52, 3) := by decide +kernel
theorem dX6_placeOf_55 : decode cX6_placeOf 55 = .ok (.iload_n 2, 1) := by decide +kernel
theorem dX6_placeOf_56 : decode cX6_placeOf 56 = .ok (.iadd, 1) := by decide +kernel
theorem dX6_placeOf_57 : decode cX6_placeOf 57 = .ok (.goto 4, 3) := by decide +kernel
theorem dX6_placeOf_60 : decode cX6_placeOf 60 = .ok (.iconst (-1), 1) := by decide +kernel
theorem dX6_placeOf_61 : decode cX6_placeOf 61 = .ok (.ireturn, 1) := by decide +kernel
theorem dX6_notesDue_0 : decode cX6_notesDue 0 = .ok (.aload_n 0, 1) := by decide +kernel
theorem dX6_notesDue_1 : decode cX6_notesDue 1 = .ok (.aload_n 0, 1) := by decide +kernel
theorem dX6_notesDue_2 : decode cX6_notesDue 2 = .ok (.getfield 12, 3) := by decide +kernel
theorem dX6_notesDue_5 : decode cX6_notesDue 5 = .ok (.invokevirtual 49, 3) := by decide +kernel
theorem dX6_notesDue_8 : decode cX6_notesDue 8 = .ok (.iconst 1, 1) := by decide +kernel
theorem dX6_notesDue_9 : decode cX6_notesDue 9 = .ok (.isub, 1) := by decide +kernel
theorem dX6_notesDue_10 : decode cX6_notesDue 10 = .ok (.invokevirtual 52, 3) := by decide +kernel
theorem dX6_notesDue_13 : decode cX6_notesDue 13 = .ok (.iconst 1, 1) := by decide +kernel
theorem dX6_notesDue_14 : decode cX6_notesDue 14 = .ok (.iadd, 1) := by decide +kernel
theorem dX6_notesDue_15 : decode cX6_notesDue 15 = .ok (.ireturn, 1) := by decide +kernel
theorem dX6_isTied_0 : decode cX6_isTied 0 = .ok (.aload_n 0, 1) := by decide +kernel
theorem dX6_isTied_1 : decode cX6_isTied 1 = .ok (.getfield 21, 3) := by decide +kernel
theorem dX6_isTied_4 : decode cX6_isTied 4 = .ok (.iconst 4, 1) := by decide +kernel
theorem dX6_isTied_5 : decode cX6_isTied 5 = .ok (.if_icmp .ne 52, 3) := by decide +kernel
theorem dX6_isTied_8 : decode cX6_isTied 8 = .ok (.iload_n 1, 1) := by decide +kernel
theorem dX6_isTied_9 : decode cX6_isTied 9 = .ok (.ifCond .le 48, 3) := by decide +kernel
theorem dX6_isTied_12 : decode cX6_isTied 12 = .ok (.aload_n 0, 1) := by decide +kernel
theorem dX6_isTied_13 : decode cX6_isTied 13 = .ok (.iload_n 1, 1) := by decide +kernel
theorem dX6_isTied_14 : decode cX6_isTied 14 = .ok (.invokevirtual 56, 3) := by decide +kernel
theorem dX6_isTied_17 : decode cX6_isTied 17 = .ok (.ifCond .ne 40, 3) := by decide +kernel
theorem dX6_isTied_20 : decode cX6_isTied 20 = .ok (.aload_n 0, 1) := by decide +kernel
theorem dX6_isTied_21 : decode cX6_isTied 21 = .ok (.getfield 18, 3) := by decide +kernel
theorem dX6_isTied_24 : decode cX6_isTied 24 = .ok (.iload_n 1, 1) := by decide +kernel
theorem dX6_isTied_25 : decode cX6_isTied 25 = .ok (.invokevirtual 59, 3) := by decide +kernel
theorem dX6_isTied_28 : decode cX6_isTied 28 = .ok (.iconst (-1), 1) := by decide +kernel
theorem dX6_isTied_29 : decode cX6_isTied 29 = .ok (.if_icmp .eq 28, 3) := by decide +kernel
theorem dX6_isTied_32 : decode cX6_isTied 32 = .ok (.aload_n 0, 1) := by decide +kernel
theorem dX6_isTied_33 : decode cX6_isTied 33 = .ok (.getfield 18, 3) := by decide +kernel
theorem dX6_isTied_36 : decode cX6_isTied 36 = .ok (.iload_n 1, 1) := by decide +kernel
theorem dX6_isTied_37 : decode cX6_isTied 37 = .ok (.invokevirtual 59, 3) := by decide +kernel
theorem dX6_isTied_40 : decode cX6_isTied 40 = .ok (.aload_n 0, 1) := by decide +kernel
theorem dX6_isTied_41 : decode cX6_isTied 41 = .ok (.getfield 18, 3) := by decide +kernel
theorem dX6_isTied_44 : decode cX6_isTied 44 = .ok (.iload_n 1, 1) := by decide +kernel
theorem dX6_isTied_45 : decode cX6_isTied 45 = .ok (.iconst 1, 1) := by decide +kernel
theorem dX6_isTied_46 : decode cX6_isTied 46 = .ok (.isub, 1) := by decide +kernel
theorem dX6_isTied_47 : decode cX6_isTied 47 = .ok (.invokevirtual 59, 3) := by decide +kernel
theorem dX6_isTied_50 : decode cX6_isTied 50 = .ok (.if_icmp .ne 7, 3) := by decide +kernel
theorem dX6_isTied_53 : decode cX6_isTied 53 = .ok (.iconst 1, 1) := by decide +kernel
theorem dX6_isTied_54 : decode cX6_isTied 54 = .ok (.goto 4, 3) := by decide +kernel
theorem dX6_isTied_57 : decode cX6_isTied 57 = .ok (.iconst 0, 1) := by decide +kernel
theorem dX6_isTied_58 : decode cX6_isTied 58 = .ok (.ireturn, 1) := by decide +kernel
theorem dX6_copyFrom_0 : decode cX6_copyFrom 0 = .ok (.aload_n 0, 1) := by decide +kernel
theorem dX6_copyFrom_1 : decode cX6_copyFrom 1 = .ok (.getfield 12, 3) := by decide +kernel
theorem dX6_copyFrom_4 : decode cX6_copyFrom 4 = .ok (.aload_n 1, 1) := by decide +kernel
theorem dX6_copyFrom_5 : decode cX6_copyFrom 5 = .ok (.getfield 12, 3) := by decide +kernel
theorem dX6_copyFrom_8 : decode cX6_copyFrom 8 = .ok (.invokevirtual 62, 3) := by decide +kernel
theorem dX6_copyFrom_11 : decode cX6_copyFrom 11 = .ok (.aload_n 0, 1) := by decide +kernel
theorem dX6_copyFrom_12 : decode cX6_copyFrom 12 = .ok (.getfield 18, 3) := by decide +kernel
theorem dX6_copyFrom_15 : decode cX6_copyFrom 15 = .ok (.aload_n 1, 1) := by decide +kernel
theorem dX6_copyFrom_16 : decode cX6_copyFrom 16 = .ok (.getfield 18, 3) := by decide +kernel
theorem dX6_copyFrom_19 : decode cX6_copyFrom 19 = .ok (.invokevirtual 62, 3) := by decide +kernel
theorem dX6_copyFrom_22 : decode cX6_copyFrom 22 = .ok (.aload_n 0, 1) := by decide +kernel
theorem dX6_copyFrom_23 : decode cX6_copyFrom 23 = .ok (.aload_n 1, 1) := by decide +kernel
theorem dX6_copyFrom_24 : decode cX6_copyFrom 24 = .ok (.getfield 21, 3) := by decide +kernel
theorem dX6_copyFrom_27 : decode cX6_copyFrom 27 = .ok (.putfield 21, 3) := by decide +kernel
theorem dX6_copyFrom_30 : decode cX6_copyFrom 30 = .ok (.aload_n 0, 1) := by decide +kernel
theorem dX6_copyFrom_31 : decode cX6_copyFrom 31 = .ok (.aload_n 1, 1) := by decide +kernel
theorem dX6_copyFrom_32 : decode cX6_copyFrom 32 = .ok (.getfield 25, 3) := by decide +kernel
theorem dX6_copyFrom_35 : decode cX6_copyFrom 35 = .ok (.putfield 25, 3) := by decide +kernel
theorem dX6_copyFrom_38 : decode cX6_copyFrom 38 = .ok (.iconst 0, 1) := by decide +kernel
theorem dX6_copyFrom_39 : decode cX6_copyFrom 39 = .ok (.istore_n 2, 1) := by decide +kernel
theorem dX6_copyFrom_40 : decode cX6_copyFrom 40 = .ok (.iload_n 2, 1) := by decide +kernel
theorem dX6_copyFrom_41 : decode cX6_copyFrom 41 = .ok (.iconst 3, 1) := by decide +kernel
theorem dX6_copyFrom_42 : decode cX6_copyFrom 42 = .ok (.if_icmp .ge 21, 3) := by decide +kernel
theorem dX6_copyFrom_45 : decode cX6_copyFrom 45 = .ok (.aload_n 0, 1) := by decide +kernel
theorem dX6_copyFrom_46 : decode cX6_copyFrom 46 = .ok (.getfield 29, 3) := by decide +kernel
theorem dX6_copyFrom_49 : decode cX6_copyFrom 49 = .ok (.iload_n 2, 1) := by decide +kernel
theorem dX6_copyFrom_50 : decode cX6_copyFrom 50 = .ok (.aload_n 1, 1) := by decide +kernel
theorem dX6_copyFrom_51 : decode cX6_copyFrom 51 = .ok (.getfield 29, 3) := by decide +kernel
theorem dX6_copyFrom_54 : decode cX6_copyFrom 54 = .ok (.iload_n 2, 1) := by decide +kernel
theorem dX6_copyFrom_55 : decode cX6_copyFrom 55 = .ok (.iaload, 1) := by decide +kernel
theorem dX6_copyFrom_56 : decode cX6_copyFrom 56 = .ok (.iastore, 1) := by decide +kernel
theorem dX6_copyFrom_57 : decode cX6_copyFrom 57 = .ok (.iinc 2 1, 3) := by decide +kernel
theorem dX6_copyFrom_60 : decode cX6_copyFrom 60 = .ok (.goto (-20), 3) := by decide +kernel
theorem dX6_copyFrom_63 : decode cX6_copyFrom 63 = .ok (.iconst 1, 1) := by decide +kernel
theorem dX6_copyFrom_64 : decode cX6_copyFrom 64 = .ok (.istore_n 2, 1) := by decide +kernel
theorem dX6_copyFrom_65 : decode cX6_copyFrom 65 = .ok (.iload_n 2, 1) := by decide +kernel
theorem dX6_copyFrom_66 : decode cX6_copyFrom 66 = .ok (.bipush 16, 2) := by decide +kernel
theorem dX6_copyFrom_68 : decode cX6_copyFrom 68 = .ok (.if_icmp .gt 21, 3) := by decide +kernel
theorem dX6_copyFrom_71 : decode cX6_copyFrom 71 = .ok (.aload_n 0, 1) := by decide +kernel
theorem dX6_copyFrom_72 : decode cX6_copyFrom 72 = .ok (.getfield 33, 3) := by decide +kernel
theorem dX6_copyFrom_75 : decode cX6_copyFrom 75 = .ok (.iload_n 2, 1) := by decide +kernel
theorem dX6_copyFrom_76 : decode cX6_copyFrom 76 = .ok (.aload_n 1, 1) := by decide +kernel
theorem dX6_copyFrom_77 : decode cX6_copyFrom 77 = .ok (.getfield 33, 3) := by decide +kernel
theorem dX6_copyFrom_80 : decode cX6_copyFrom 80 = .ok (.iload_n 2, 1) := by decide +kernel
theorem dX6_copyFrom_81 : decode cX6_copyFrom 81 = .ok (.iaload, 1) := by decide +kernel
theorem dX6_copyFrom_82 : decode cX6_copyFrom 82 = .ok (.iastore, 1) := by decide +kernel
theorem dX6_copyFrom_83 : decode cX6_copyFrom 83 = .ok (.iinc 2 1, 3) := by decide +kernel
theorem dX6_copyFrom_86 : decode cX6_copyFrom 86 = .ok (.goto (-21), 3) := by decide +kernel
theorem dX6_copyFrom_89 : decode cX6_copyFrom 89 = .ok (.return_, 1) := by decide +kernel
theorem dX8_init_0 : decode cX8_init 0 = .ok (.aload_n 0, 1) := by decide +kernel
theorem dX8_init_1 : decode cX8_init 1 = .ok (.invokespecial 1, 3) := by decide +kernel
theorem dX8_init_4 : decode cX8_init 4 = .ok (.aload_n 0, 1) := by decide +kernel
theorem dX8_init_5 : decode cX8_init 5 = .ok (.new 7, 3) := by decide +kernel
theorem dX8_init_8 : decode cX8_init 8 = .ok (.dup, 1) := by decide +kernel
theorem dX8_init_9 : decode cX8_init 9 = .ok (.invokespecial 9, 3) := by decide +kernel
theorem dX8_init_12 : decode cX8_init 12 = .ok (.putfield 10, 3) := by decide +kernel
theorem dX8_init_15 : decode cX8_init 15 = .ok (.aload_n 0, 1) := by decide +kernel
theorem dX8_init_16 : decode cX8_init 16 = .ok (.aload_n 0, 1) := by decide +kernel
theorem dX8_init_17 : decode cX8_init 17 = .ok (.getfield 10, 3) := by decide +kernel
theorem dX8_init_20 : decode cX8_init 20 = .ok (.getfield 16, 3) := by decide +kernel
theorem dX8_init_23 : decode cX8_init 23 = .ok (.putfield 20, 3) := by decide +kernel
theorem dX8_init_26 : decode cX8_init 26 = .ok (.aload_n 0, 1) := by decide +kernel
theorem dX8_init_27 : decode cX8_init 27 = .ok (.new 23, 3) := by decide +kernel
theorem dX8_init_30 : decode cX8_init 30 = .ok (.dup, 1) := by decide +kernel
theorem dX8_init_31 : decode cX8_init 31 = .ok (.invokespecial 25, 3) := by decide +kernel
theorem dX8_init_34 : decode cX8_init 34 = .ok (.putfield 26, 3) := by decide +kernel
theorem dX8_init_37 : decode cX8_init 37 = .ok (.aload_n 0, 1) := by decide +kernel
theorem dX8_init_38 : decode cX8_init 38 = .ok (.new 29, 3) := by decide +kernel
theorem dX8_init_41 : decode cX8_init 41 = .ok (.dup, 1) := by decide +kernel
theorem dX8_init_42 : decode cX8_init 42 = .ok (.invokespecial 31, 3) := by decide +kernel
theorem dX8_init_45 : decode cX8_init 45 = .ok (.putfield 32, 3) := by decide +kernel
theorem dX8_init_48 : decode cX8_init 48 = .ok (.aload_n 0, 1) := by decide +kernel
theorem dX8_init_49 : decode cX8_init 49 = .ok (.new 36, 3) := by decide +kernel
theorem dX8_init_52 : decode cX8_init 52 = .ok (.dup, 1) := by decide +kernel
theorem dX8_init_53 : decode cX8_init 53 = .ok (.invokespecial 38, 3) := by decide +kernel
theorem dX8_init_56 : decode cX8_init 56 = .ok (.putfield 39, 3) := by decide +kernel
theorem dX8_init_59 : decode cX8_init 59 = .ok (.aload_n 0, 1) := by decide +kernel
theorem dX8_init_60 : decode cX8_init 60 = .ok (.new 43, 3) := by decide +kernel
theorem dX8_init_63 : decode cX8_init 63 = .ok (.dup, 1) := by decide +kernel
theorem dX8_init_64 : decode cX8_init 64 = .ok (.invokespecial 45, 3) := by decide +kernel
theorem dX8_init_67 : decode cX8_init 67 = .ok (.putfield 46, 3) := by decide +kernel
theorem dX8_init_70 : decode cX8_init 70 = .ok (.aload_n 0, 1) := by decide +kernel
theorem dX8_init_71 : decode cX8_init 71 = .ok (.new 50, 3) := by decide +kernel
theorem dX8_init_74 : decode cX8_init 74 = .ok (.dup, 1) := by decide +kernel
theorem dX8_init_75 : decode cX8_init 75 = .ok (.invokespecial 52, 3) := by decide +kernel
theorem dX8_init_78 : decode cX8_init 78 = .ok (.putfield 53, 3) := by decide +kernel
theorem dX8_init_81 : decode cX8_init 81 = .ok (.aload_n 0, 1) := by decide +kernel
theorem dX8_init_82 : decode cX8_init 82 = .ok (.aload_n 0, 1) := by decide +kernel
theorem dX8_init_83 : decode cX8_init 83 = .ok (.getfield 53, 3) := by decide +kernel
theorem dX8_init_86 : decode cX8_init 86 = .ok (.getfield 57, 3) := by decide +kernel
theorem dX8_init_89 : decode cX8_init 89 = .ok (.putfield 61, 3) := by decide +kernel
theorem dX8_init_92 : decode cX8_init 92 = .ok (.aload_n 0, 1) := by decide +kernel
theorem dX8_init_93 : decode cX8_init 93 = .ok (.new 64, 3) := by decide +kernel
theorem dX8_init_96 : decode cX8_init 96 = .ok (.dup, 1) := by decide +kernel
theorem dX8_init_97 : decode cX8_init 97 = .ok (.invokespecial 66, 3) := by decide +kernel
theorem dX8_init_100 : decode cX8_init 100 = .ok (.putfield 67, 3) := by decide +kernel
theorem dX8_init_103 : decode cX8_init 103 = .ok (.aload_n 0, 1) := by decide +kernel
theorem dX8_init_104 : decode cX8_init 104 = .ok (.iconst 0, 1) := by decide +kernel
theorem dX8_init_105 : decode cX8_init 105 = .ok (.putfield 70, 3) := by decide +kernel
theorem dX8_init_108 : decode cX8_init 108 = .ok (.aload_n 0, 1) := by decide +kernel
theorem dX8_init_109 : decode cX8_init 109 = .ok (.iconst (-1), 1) := by decide +kernel
theorem dX8_init_110 : decode cX8_init 110 = .ok (.putfield 74, 3) := by decide +kernel
theorem dX8_init_113 : decode cX8_init 113 = .ok (.return_, 1) := by decide +kernel
theorem dX8_append_0 : decode cX8_append 0 = .ok (.iconst 0, 1) := by decide +kernel
theorem dX8_append_1 : decode cX8_append 1 = .ok (.istore_n 2, 1) := by decide +kernel
theorem dX8_append_2 : decode cX8_append 2 = .ok (.bipush 24, 2) := by decide +kernel
theorem dX8_append_4 : decode cX8_append 4 = .ok (.istore_n 3, 1) := by decide +kernel
theorem dX8_append_5 : decode cX8_append 5 = .ok (.iload_n 3, 1) := by decide +kernel
theorem dX8_append_6 : decode cX8_append 6 = .ok (.ifCond .lt 60, 3) := by decide +kernel
theorem dX8_append_9 : decode cX8_append 9 = .ok (.iload_n 1, 1) := by decide +kernel
theorem dX8_append_10 : decode cX8_append 10 = .ok (.iload_n 3, 1) := by decide +kernel
theorem dX8_append_11 : decode cX8_append 11 = .ok (.ishr, 1) := by decide +kernel
theorem dX8_append_12 : decode cX8_append 12 = .ok (.sipush 255, 3) := by decide +kernel
theorem dX8_append_15 : decode cX8_append 15 = .ok (.iand, 1) := by decide +kernel
theorem dX8_append_16 : decode cX8_append 16 = .ok (.istore 4, 2) := by decide +kernel
theorem dX8_append_18 : decode cX8_append 18 = .ok (.iload 4, 2) := by decide +kernel
theorem dX8_append_20 : decode cX8_append 20 = .ok (.ifCond .eq 27, 3) := by decide +kernel
theorem dX8_append_23 : decode cX8_append 23 = .ok (.iload 4, 2) := by decide +kernel
theorem dX8_append_25 : decode cX8_append 25 = .ok (.bipush 33, 2) := by decide +kernel
theorem dX8_append_27 : decode cX8_append 27 = .ok (.if_icmp .lt 10, 3) := by decide +kernel
theorem dX8_append_30 : decode cX8_append 30 = .ok (.iload 4, 2) := by decide +kernel
theorem dX8_append_32 : decode cX8_append 32 = .ok (.bipush 126, 2) := by decide +kernel
theorem dX8_append_34 : decode cX8_append 34 = .ok (.if_icmp .le 13, 3) := by decide +kernel
theorem dX8_append_37 : decode cX8_append 37 = .ok (.new 78, 3) := by decide +kernel
theorem dX8_append_40 : decode cX8_append 40 = .ok (.dup, 1) := by decide +kernel
theorem dX8_append_41 : decode cX8_append 41 = .ok (.ldc 80, 2) := by decide +kernel
theorem dX8_append_43 : decode cX8_append 43 = .ok (.invokespecial 82, 3) := by decide +kernel
theorem dX8_append_46 : decode cX8_append 46 = .ok (.athrow, 1) := by decide +kernel
theorem dX8_append_47 : decode cX8_append 47 = .ok (.iload_n 2, 1) := by decide +kernel
theorem dX8_append_48 : decode cX8_append 48 = .ok (.iload 4, 2) := by decide +kernel
theorem dX8_append_50 : decode cX8_append 50 = .ok (.ifCond .ne 7, 3) := by decide +kernel
theorem dX8_append_53 : decode cX8_append 53 = .ok (.iconst 0, 1) := by decide +kernel
theorem dX8_append_54 : decode cX8_append 54 = .ok (.goto 4, 3) := by decide +kernel
theorem dX8_append_57 : decode cX8_append 57 = .ok (.iconst 1, 1) := by decide +kernel
theorem dX8_append_58 : decode cX8_append 58 = .ok (.iadd, 1) := by decide +kernel
theorem dX8_append_59 : decode cX8_append 59 = .ok (.istore_n 2, 1) := by decide +kernel
theorem dX8_append_60 : decode cX8_append 60 = .ok (.iinc 3 (-8), 3) := by decide +kernel
theorem dX8_append_63 : decode cX8_append 63 = .ok (.goto (-58), 3) := by decide +kernel
theorem dX8_append_66 : decode cX8_append 66 = .ok (.aload_n 0, 1) := by decide +kernel
theorem dX8_append_67 : decode cX8_append 67 = .ok (.getfield 61, 3) := by decide +kernel
theorem dX8_append_70 : decode cX8_append 70 = .ok (.invokevirtual 85, 3) := by decide +kernel
theorem dX8_append_73 : decode cX8_append 73 = .ok (.iload_n 2, 1) := by decide +kernel
theorem dX8_append_74 : decode cX8_append 74 = .ok (.iadd, 1) := by decide +kernel
theorem dX8_append_75 : decode cX8_append 75 = .ok (.sipush 180, 3) := by decide +kernel
theorem dX8_append_78 : decode cX8_append 78 = .ok (.if_icmp .le 13, 3) := by decide +kernel
theorem dX8_append_81 : decode cX8_append 81 = .ok (.new 89, 3) := by decide +kernel
theorem dX8_append_84 : decode cX8_append 84 = .ok (.dup, 1) := by decide +kernel
theorem dX8_append_85 : decode cX8_append 85 = .ok (.ldc 91, 2) := by decide +kernel
theorem dX8_append_87 : decode cX8_append 87 = .ok (.invokespecial 93, 3) := by decide +kernel
theorem dX8_append_90 : decode cX8_append 90 = .ok (.athrow, 1) := by decide +kernel
theorem dX8_append_91 : decode cX8_append 91 = .ok (.bipush 24, 2) := by decide +kernel
theorem dX8_append_93 : decode cX8_append 93 = .ok (.istore_n 3, 1) := by decide +kernel
theorem dX8_append_94 : decode cX8_append 94 = .ok (.iload_n 3, 1) := by decide +kernel
theorem dX8_append_95 : decode cX8_append 95 = .ok (.ifCond .lt 33, 3) := by decide +kernel
theorem dX8_append_98 : decode cX8_append 98 = .ok (.iload_n 1, 1) := by decide +kernel
theorem dX8_append_99 : decode cX8_append 99 = .ok (.iload_n 3, 1) := by decide +kernel
theorem dX8_append_100 : decode cX8_append 100 = .ok (.ishr, 1) := by decide +kernel
theorem dX8_append_101 : decode cX8_append 101 = .ok (.sipush 255, 3) := by decide +kernel
theorem dX8_append_104 : decode cX8_append 104 = .ok (.iand, 1) := by decide +kernel
theorem dX8_append_105 : decode cX8_append 105 = .ok (.istore 4, 2) := by decide +kernel
theorem dX8_append_107 : decode cX8_append 107 = .ok (.iload 4, 2) := by decide +kernel
theorem dX8_append_109 : decode cX8_append 109 = .ok (.ifCond .eq 13, 3) := by decide +kernel
theorem dX8_append_112 : decode cX8_append 112 = .ok (.aload_n 0, 1) := by decide +kernel
theorem dX8_append_113 : decode cX8_append 113 = .ok (.getfield 61, 3) := by decide +kernel
theorem dX8_append_116 : decode cX8_append 116 = .ok (.iload 4, 2) := by decide +kernel
theorem dX8_append_118 : decode cX8_append 118 = .ok (.i2c, 1) := by decide +kernel
theorem dX8_append_119 : decode cX8_append 119 = .ok (.invokevirtual 94, 3) := by decide +kernel
theorem dX8_append_122 : decode cX8_append 122 = .ok (.iinc 3 (-8), 3) := by decide +kernel
theorem dX8_append_125 : decode cX8_append 125 = .ok (.goto (-31), 3) := by decide +kernel
theorem dX8_append_128 : decode cX8_append 128 = .ok (.aload_n 0, 1) := by decide +kernel
theorem dX8_append_129 : decode cX8_append 129 = .ok (.getfield 61, 3) := by decide +kernel
theorem dX8_append_132 : decode cX8_append 132 = .ok (.invokevirtual 85, 3) := by decide +kernel
theorem dX8_append_135 : decode cX8_append 135 = .ok (.ireturn, 1) := by decide +kernel
theorem dX8_cantus_0 : decode cX8_cantus 0 = .ok (.aload_n 0, 1) := by decide +kernel
theorem dX8_cantus_1 : decode cX8_cantus 1 = .ok (.aload_n 0, 1) := by decide +kernel
theorem dX8_cantus_2 : decode cX8_cantus 2 = .ok (.getfield 53, 3) := by decide +kernel
theorem dX8_cantus_5 : decode cX8_cantus 5 = .ok (.iconst 0, 1) := by decide +kernel
theorem dX8_cantus_6 : decode cX8_cantus 6 = .ok (.iconst 2, 1) := by decide +kernel
theorem dX8_cantus_7 : decode cX8_cantus 7 = .ok (.bipush 12, 2) := by decide +kernel
theorem dX8_cantus_9 : decode cX8_cantus 9 = .ok (.invokevirtual 98, 3) := by decide +kernel
theorem dX8_cantus_12 : decode cX8_cantus 12 = .ok (.putfield 74, 3) := by decide +kernel
theorem dX8_cantus_15 : decode cX8_cantus 15 = .ok (.aload_n 0, 1) := by decide +kernel
theorem dX8_cantus_16 : decode cX8_cantus 16 = .ok (.getfield 61, 3) := by decide +kernel
theorem dX8_cantus_19 : decode cX8_cantus 19 = .ok (.invokevirtual 102, 3) := by decide +kernel
theorem dX8_cantus_22 : decode cX8_cantus 22 = .ok (.aload_n 0, 1) := by decide +kernel
theorem dX8_cantus_23 : decode cX8_cantus 23 = .ok (.getfield 74, 3) := by decide +kernel
theorem dX8_cantus_26 : decode cX8_cantus 26 = .ok (.iconst (-1), 1) := by decide +kernel
theorem dX8_cantus_27 : decode cX8_cantus 27 = .ok (.if_icmp .eq 13, 3) := by decide +kernel
theorem dX8_cantus_30 : decode cX8_cantus 30 = .ok (.new 78, 3) := by decide +kernel
theorem dX8_cantus_33 : decode cX8_cantus 33 = .ok (.dup, 1) := by decide +kernel
theorem dX8_cantus_34 : decode cX8_cantus 34 = .ok (.ldc 105, 2) := by decide +kernel
theorem dX8_cantus_36 : decode cX8_cantus 36 = .ok (.invokespecial 82, 3) := by decide +kernel
theorem dX8_cantus_39 : decode cX8_cantus 39 = .ok (.athrow, 1) := by decide +kernel
theorem dX8_cantus_40 : decode cX8_cantus 40 = .ok (.aload_n 0, 1) := by decide +kernel
theorem dX8_cantus_41 : decode cX8_cantus 41 = .ok (.getfield 32, 3) := by decide +kernel
theorem dX8_cantus_44 : decode cX8_cantus 44 = .ok (.aload_n 0, 1) := by decide +kernel
theorem dX8_cantus_45 : decode cX8_cantus 45 = .ok (.getfield 20, 3) := by decide +kernel
theorem dX8_cantus_48 : decode cX8_cantus 48 = .ok (.invokevirtual 107, 3) := by decide +kernel
theorem dX8_cantus_51 : decode cX8_cantus 51 = .ok (.aload_n 0, 1) := by decide +kernel
theorem dX8_cantus_52 : decode cX8_cantus 52 = .ok (.getfield 20, 3) := by decide +kernel
theorem dX8_cantus_55 : decode cX8_cantus 55 = .ok (.getfield 111, 3) := by decide +kernel
theorem dX8_cantus_58 : decode cX8_cantus 58 = .ok (.aload_n 0, 1) := by decide +kernel
theorem dX8_cantus_59 : decode cX8_cantus 59 = .ok (.getfield 53, 3) := by decide +kernel
theorem dX8_cantus_62 : decode cX8_cantus 62 = .ok (.invokevirtual 114, 3) := by decide +kernel
theorem dX8_cantus_65 : decode cX8_cantus 65 = .ok (.invokevirtual 118, 3) := by decide +kernel
theorem dX8_cantus_68 : decode cX8_cantus 68 = .ok (.aload_n 0, 1) := by decide +kernel
theorem dX8_cantus_69 : decode cX8_cantus 69 = .ok (.getfield 20, 3) := by decide +kernel
theorem dX8_cantus_72 : decode cX8_cantus 72 = .ok (.getfield 122, 3) := by decide +kernel
theorem dX8_cantus_75 : decode cX8_cantus 75 = .ok (.invokevirtual 125, 3) := by decide +kernel
theorem dX8_cantus_78 : decode cX8_cantus 78 = .ok (.aload_n 0, 1) := by decide +kernel
theorem dX8_cantus_79 : decode cX8_cantus 79 = .ok (.getfield 20, 3) := by decide +kernel
theorem dX8_cantus_82 : decode cX8_cantus 82 = .ok (.getfield 111, 3) := by decide +kernel
theorem dX8_cantus_85 : decode cX8_cantus 85 = .ok (.invokevirtual 126, 3) := by decide +kernel
theorem dX8_cantus_88 : decode cX8_cantus 88 = .ok (.ireturn, 1) := by decide +kernel
theorem dX8_counterpoint_0 : decode cX8_counterpoint 0 = .ok (.aload_n 0, 1) := by decide +kernel
theorem dX8_counterpoint_1 : decode cX8_counterpoint 1 = .ok (.invokevirtual 127, 3) := by decide +kernel
theorem dX8_counterpoint_4 : decode cX8_counterpoint 4 = .ok (.aload_n 0, 1) := by decide +kernel
theorem dX8_counterpoint_5 : decode cX8_counterpoint 5 = .ok (.getfield 20, 3) := by decide +kernel
theorem dX8_counterpoint_8 : decode cX8_counterpoint 8 = .ok (.invokevirtual 130, 3) := by decide +kernel
theorem dX8_counterpoint_11 : decode cX8_counterpoint 11 = .ok (.istore_n 1, 1) := by decide +kernel
theorem dX8_counterpoint_12 : decode cX8_counterpoint 12 = .ok (.aload_n 0, 1) := by decide +kernel
theorem dX8_counterpoint_13 : decode cX8_counterpoint 13 = .ok (.aload_n 0, 1) := by decide +kernel
theorem dX8_counterpoint_14 : decode cX8_counterpoint 14 = .ok (.getfield 53, 3) := by decide +kernel
theorem dX8_counterpoint_17 : decode cX8_counterpoint 17 = .ok (.aload_n 0, 1) := by decide +kernel
theorem dX8_counterpoint_18 : decode cX8_counterpoint 18 = .ok (.getfield 20, 3) := by decide +kernel
theorem dX8_counterpoint_21 : decode cX8_counterpoint 21 = .ok (.invokevirtual 133, 3) := by decide +kernel
theorem dX8_counterpoint_24 : decode cX8_counterpoint 24 = .ok (.iconst 1, 1) := by decide +kernel
theorem dX8_counterpoint_25 : decode cX8_counterpoint 25 = .ok (.if_icmp .eq 7, 3) := by decide +kernel
theorem dX8_counterpoint_28 : decode cX8_counterpoint 28 = .ok (.iconst 1, 1) := by decide +kernel
theorem dX8_counterpoint_29 : decode cX8_counterpoint 29 = .ok (.goto 4, 3) := by decide +kernel
theorem dX8_counterpoint_32 : decode cX8_counterpoint 32 = .ok (.iconst 0, 1) := by decide +kernel
theorem dX8_counterpoint_33 : decode cX8_counterpoint 33 = .ok (.iload_n 1, 1) := by decide +kernel
theorem dX8_counterpoint_34 : decode cX8_counterpoint 34 = .ok (.iload_n 1, 1) := by decide +kernel
theorem dX8_counterpoint_35 : decode cX8_counterpoint 35 = .ok (.invokevirtual 98, 3) := by decide +kernel
theorem dX8_counterpoint_38 : decode cX8_counterpoint 38 = .ok (.putfield 74, 3) := by decide +kernel
theorem dX8_counterpoint_41 : decode cX8_counterpoint 41 = .ok (.aload_n 0, 1) := by decide +kernel
theorem dX8_counterpoint_42 : decode cX8_counterpoint 42 = .ok (.getfield 61, 3) := by decide +kernel
theorem dX8_counterpoint_45 : decode cX8_counterpoint 45 = .ok (.invokevirtual 102, 3) := by decide +kernel
theorem dX8_counterpoint_48 : decode cX8_counterpoint 48 = .ok (.aload_n 0, 1) := by decide +kernel
theorem dX8_counterpoint_49 : decode cX8_counterpoint 49 = .ok (.getfield 74, 3) := by decide +kernel
theorem dX8_counterpoint_52 : decode cX8_counterpoint 52 = .ok (.iconst (-1), 1) := by decide +kernel
theorem dX8_counterpoint_53 : decode cX8_counterpoint 53 = .ok (.if_icmp .eq 13, 3) := by decide +kernel
theorem dX8_counterpoint_56 : decode cX8_counterpoint 56 = .ok (.new 78, 3) := by decide +kernel
theorem dX8_counterpoint_59 : decode cX8_counterpoint 59 = .ok (.dup, 1) := by decide +kernel
theorem dX8_counterpoint_60 : decode cX8_counterpoint 60 = .ok (.ldc 136, 2) := by decide +kernel
theorem dX8_counterpoint_62 : decode cX8_counterpoint 62 = .ok (.invokespecial 82, 3) := by decide +kernel
theorem dX8_counterpoint_65 : decode cX8_counterpoint 65 = .ok (.athrow, 1) := by decide +kernel
theorem dX8_counterpoint_66 : decode cX8_counterpoint 66 = .ok (.aload_n 0, 1) := by decide +kernel
theorem dX8_counterpoint_67 : decode cX8_counterpoint 67 = .ok (.getfield 32, 3) := by decide +kernel
theorem dX8_counterpoint_70 : decode cX8_counterpoint 70 = .ok (.aload_n 0, 1) := by decide +kernel
theorem dX8_counterpoint_71 : decode cX8_counterpoint 71 = .ok (.getfield 20, 3) := by decide +kernel
theorem dX8_counterpoint_74 : decode cX8_counterpoint 74 = .ok (.invokevirtual 107, 3) := by decide +kernel
theorem dX8_counterpoint_77 : decode cX8_counterpoint 77 = .ok (.aload_n 0, 1) := by decide +kernel
theorem dX8_counterpoint_78 : decode cX8_counterpoint 78 = .ok (.getfield 20, 3) := by decide +kernel
theorem dX8_counterpoint_81 : decode cX8_counterpoint 81 = .ok (.getfield 122, 3) := by decide +kernel
theorem dX8_counterpoint_84 : decode cX8_counterpoint 84 = .ok (.aload_n 0, 1) := by decide +kernel
theorem dX8_counterpoint_85 : decode cX8_counterpoint 85 = .ok (.getfield 53, 3) := by decide +kernel
theorem dX8_counterpoint_88 : decode cX8_counterpoint 88 = .ok (.invokevirtual 114, 3) := by decide +kernel
theorem dX8_counterpoint_91 : decode cX8_counterpoint 91 = .ok (.invokevirtual 118, 3) := by decide +kernel
theorem dX8_counterpoint_94 : decode cX8_counterpoint 94 = .ok (.aload_n 0, 1) := by decide +kernel
theorem dX8_counterpoint_95 : decode cX8_counterpoint 95 = .ok (.getfield 10, 3) := by decide +kernel
theorem dX8_counterpoint_98 : decode cX8_counterpoint 98 = .ok (.iconst (-1), 1) := by decide +kernel
theorem dX8_counterpoint_99 : decode cX8_counterpoint 99 = .ok (.iconst (-1), 1) := by decide +kernel
theorem dX8_counterpoint_100 : decode cX8_counterpoint 100 = .ok (.invokevirtual 138, 3) := by decide +kernel
theorem dX8_counterpoint_103 : decode cX8_counterpoint 103 = .ok (.ireturn, 1) := by decide +kernel
theorem dX8_errorPosition_0 : decode cX8_errorPosition 0 = .ok (.aload_n 0, 1) := by decide +kernel
theorem dX8_errorPosition_1 : decode cX8_errorPosition 1 = .ok (.getfield 74, 3) := by decide +kernel
theorem dX8_errorPosition_4 : decode cX8_errorPosition 4 = .ok (.ireturn, 1) := by decide +kernel
theorem dX8_setSpecies_0 : decode cX8_setSpecies 0 = .ok (.iload_n 1, 1) := by decide +kernel
theorem dX8_setSpecies_1 : decode cX8_setSpecies 1 = .ok (.iconst 1, 1) := by decide +kernel
theorem dX8_setSpecies_2 : decode cX8_setSpecies 2 = .ok (.if_icmp .lt 8, 3) := by decide +kernel
theorem dX8_setSpecies_5 : decode cX8_setSpecies 5 = .ok (.iload_n 1, 1) := by decide +kernel
theorem dX8_setSpecies_6 : decode cX8_setSpecies 6 = .ok (.iconst 4, 1) := by decide +kernel
theorem dX8_setSpecies_7 : decode cX8_setSpecies 7 = .ok (.if_icmp .le 13, 3) := by decide +kernel
theorem dX8_setSpecies_10 : decode cX8_setSpecies 10 = .ok (.new 78, 3) := by decide +kernel
theorem dX8_setSpecies_13 : decode cX8_setSpecies 13 = .ok (.dup, 1) := by decide +kernel
theorem dX8_setSpecies_14 : decode cX8_setSpecies 14 = .ok (.ldc 142, 2) := by decide +kernel
theorem dX8_setSpecies_16 : decode cX8_setSpecies 16 = .ok (.invokespecial 82, 3) := by decide +kernel
theorem dX8_setSpecies_19 : decode cX8_setSpecies 19 = .ok (.athrow, 1) := by decide +kernel
theorem dX8_setSpecies_20 : decode cX8_setSpecies 20 = .ok (.aload_n 0, 1) := by decide +kernel
theorem dX8_setSpecies_21 : decode cX8_setSpecies 21 = .ok (.getfield 32, 3) := by decide +kernel
theorem dX8_setSpecies_24 : decode cX8_setSpecies 24 = .ok (.aload_n 0, 1) := by decide +kernel
theorem dX8_setSpecies_25 : decode cX8_setSpecies 25 = .ok (.getfield 20, 3) := by decide +kernel
theorem dX8_setSpecies_28 : decode cX8_setSpecies 28 = .ok (.invokevirtual 107, 3) := by decide +kernel
theorem dX8_setSpecies_31 : decode cX8_setSpecies 31 = .ok (.aload_n 0, 1) := by decide +kernel
theorem dX8_setSpecies_32 : decode cX8_setSpecies 32 = .ok (.getfield 20, 3) := by decide +kernel
theorem dX8_setSpecies_35 : decode cX8_setSpecies 35 = .ok (.invokevirtual 133, 3) := by decide +kernel
theorem dX8_setSpecies_38 : decode cX8_setSpecies 38 = .ok (.istore_n 2, 1) := by decide +kernel
theorem dX8_setSpecies_39 : decode cX8_setSpecies 39 = .ok (.aload_n 0, 1) := by decide +kernel
theorem dX8_setSpecies_40 : decode cX8_setSpecies 40 = .ok (.getfield 20, 3) := by decide +kernel
theorem dX8_setSpecies_43 : decode cX8_setSpecies 43 = .ok (.iload_n 1, 1) := by decide +kernel
theorem dX8_setSpecies_44 : decode cX8_setSpecies 44 = .ok (.invokevirtual 144, 3) := by decide +kernel
theorem dX8_setSpecies_47 : decode cX8_setSpecies 47 = .ok (.iload_n 2, 1) := by decide +kernel
theorem dX8_setSpecies_48 : decode cX8_setSpecies 48 = .ok (.ireturn, 1) := by decide +kernel
theorem dX8_setPosition_0 : decode cX8_setPosition 0 = .ok (.aload_n 0, 1) := by decide +kernel
theorem dX8_setPosition_1 : decode cX8_setPosition 1 = .ok (.getfield 32, 3) := by decide +kernel
theorem dX8_setPosition_4 : decode cX8_setPosition 4 = .ok (.aload_n 0, 1) := by decide +kernel
theorem dX8_setPosition_5 : decode cX8_setPosition 5 = .ok (.getfield 20, 3) := by decide +kernel
theorem dX8_setPosition_8 : decode cX8_setPosition 8 = .ok (.invokevirtual 107, 3) := by decide +kernel
theorem dX8_setPosition_11 : decode cX8_setPosition 11 = .ok (.aload_n 0, 1) := by decide +kernel
theorem dX8_setPosition_12 : decode cX8_setPosition 12 = .ok (.getfield 20, 3) := by decide +kernel
theorem dX8_setPosition_15 : decode cX8_setPosition 15 = .ok (.invokevirtual 148, 3) := by decide +kernel
theorem dX8_setPosition_18 : decode cX8_setPosition 18 = .ok (.istore_n 2, 1) := by decide +kernel
theorem dX8_setPosition_19 : decode cX8_setPosition 19 = .ok (.aload_n 0, 1) := by decide +kernel
theorem dX8_setPosition_20 : decode cX8_setPosition 20 = .ok (.getfield 20, 3) := by decide +kernel
theorem dX8_setPosition_23 : decode cX8_setPosition 23 = .ok (.iload_n 1, 1) := by decide +kernel
theorem dX8_setPosition_24 : decode cX8_setPosition 24 = .ok (.invokevirtual 152, 3) := by decide +kernel
theorem dX8_setPosition_27 : decode cX8_setPosition 27 = .ok (.iload_n 2, 1) := by decide +kernel
theorem dX8_setPosition_28 : decode cX8_setPosition 28 = .ok (.ireturn, 1) := by decide +kernel
theorem dX8_set_0 : decode cX8_set 0 = .ok (.iload_n 1, 1) := by decide +kernel
theorem dX8_set_1 : decode cX8_set 1 = .ok (.ifCond .lt 8, 3) := by decide +kernel
theorem dX8_set_4 : decode cX8_set 4 = .ok (.iload_n 1, 1) := by decide +kernel
theorem dX8_set_5 : decode cX8_set 5 = .ok (.iconst 3, 1) := by decide +kernel
theorem dX8_set_6 : decode cX8_set 6 = .ok (.if_icmp .lt 13, 3) := by decide +kernel
theorem dX8_set_9 : decode cX8_set 9 = .ok (.new 156, 3) := by decide +kernel
theorem dX8_set_12 : decode cX8_set 12 = .ok (.dup, 1) := by decide +kernel
theorem dX8_set_13 : decode cX8_set 13 = .ok (.ldc 158, 2) := by decide +kernel
theorem dX8_set_15 : decode cX8_set 15 = .ok (.invokespecial 160, 3) := by decide +kernel
theorem dX8_set_18 : decode cX8_set 18 = .ok (.athrow, 1) := by decide +kernel
theorem dX8_set_19 : decode cX8_set 19 = .ok (.aload_n 0, 1) := by decide +kernel
theorem dX8_set_20 : decode cX8_set 20 = .ok (.getfield 20, 3) := by decide +kernel
theorem dX8_set_23 : decode cX8_set 23 = .ok (.iload_n 1, 1) := by decide +kernel
theorem dX8_set_24 : decode cX8_set 24 = .ok (.iload_n 2, 1) := by decide +kernel
theorem dX8_set_25 : decode cX8_set 25 = .ok (.invokevirtual 161, 3) := by decide +kernel
theorem dX8_set_28 : decode cX8_set 28 = .ok (.ifCond .ne 13, 3) := by decide +kernel
theorem dX8_set_31 : decode cX8_set 31 = .ok (.new 78, 3) := by decide +kernel
theorem dX8_set_34 : decode cX8_set 34 = .ok (.dup, 1) := by decide +kernel
theorem dX8_set_35 : decode cX8_set 35 = .ok (.ldc 165, 2) := by decide +kernel
theorem dX8_set_37 : decode cX8_set 37 = .ok (.invokespecial 82, 3) := by decide +kernel
theorem dX8_set_40 : decode cX8_set 40 = .ok (.athrow, 1) := by decide +kernel
theorem dX8_set_41 : decode cX8_set 41 = .ok (.aload_n 0, 1) := by decide +kernel
theorem dX8_set_42 : decode cX8_set 42 = .ok (.getfield 32, 3) := by decide +kernel
theorem dX8_set_45 : decode cX8_set 45 = .ok (.aload_n 0, 1) := by decide +kernel
theorem dX8_set_46 : decode cX8_set 46 = .ok (.getfield 20, 3) := by decide +kernel
theorem dX8_set_49 : decode cX8_set 49 = .ok (.invokevirtual 107, 3) := by decide +kernel
theorem dX8_set_52 : decode cX8_set 52 = .ok (.aload_n 0, 1) := by decide +kernel
theorem dX8_set_53 : decode cX8_set 53 = .ok (.getfield 20, 3) := by decide +kernel
theorem dX8_set_56 : decode cX8_set 56 = .ok (.iload_n 1, 1) := by decide +kernel
theorem dX8_set_57 : decode cX8_set 57 = .ok (.invokevirtual 167, 3) := by decide +kernel
theorem dX8_set_60 : decode cX8_set 60 = .ok (.istore_n 3, 1) := by decide +kernel
theorem dX8_set_61 : decode cX8_set 61 = .ok (.aload_n 0, 1) := by decide +kernel
theorem dX8_set_62 : decode cX8_set 62 = .ok (.getfield 20, 3) := by decide +kernel
theorem dX8_set_65 : decode cX8_set 65 = .ok (.iload_n 1, 1) := by decide +kernel
theorem dX8_set_66 : decode cX8_set 66 = .ok (.iload_n 2, 1) := by decide +kernel
theorem dX8_set_67 : decode cX8_set 67 = .ok (.invokevirtual 171, 3) := by decide +kernel
theorem dX8_set_70 : decode cX8_set 70 = .ok (.iload_n 3, 1) := by decide +kernel
theorem dX8_set_71 : decode cX8_set 71 = .ok (.ireturn, 1) := by decide +kernel
theorem dX8_setNote_0 : decode cX8_setNote 0 = .ok (.aload_n 0, 1) := by decide +kernel
theorem dX8_setNote_1 : decode cX8_setNote 1 = .ok (.iload_n 1, 1) := by decide +kernel
theorem dX8_setNote_2 : decode cX8_setNote 2 = .ok (.iload_n 2, 1) := by decide +kernel
theorem dX8_setNote_3 : decode cX8_setNote 3 = .ok (.invokevirtual 175, 3) := by decide +kernel
theorem dX8_setNote_6 : decode cX8_setNote 6 = .ok (.istore 4, 2) := by decide +kernel
theorem dX8_setNote_8 : decode cX8_setNote 8 = .ok (.aload_n 0, 1) := by decide +kernel
theorem dX8_setNote_9 : decode cX8_setNote 9 = .ok (.iload_n 3, 1) := by decide +kernel
theorem dX8_setNote_10 : decode cX8_setNote 10 = .ok (.invokevirtual 178, 3) := by decide +kernel
theorem dX8_setNote_13 : decode cX8_setNote 13 = .ok (.aload_n 0, 1) := by decide +kernel
theorem dX8_setNote_14 : decode cX8_setNote 14 = .ok (.iload 4, 2) := by decide +kernel
theorem dX8_setNote_16 : decode cX8_setNote 16 = .ok (.invokevirtual 181, 3) := by decide +kernel
theorem dX8_setNote_19 : decode cX8_setNote 19 = .ok (.aload_n 0, 1) := by decide +kernel
theorem dX8_setNote_20 : decode cX8_setNote 20 = .ok (.getfield 32, 3) := by decide +kernel
theorem dX8_setNote_23 : decode cX8_setNote 23 = .ok (.aload_n 0, 1) := by decide +kernel
theorem dX8_setNote_24 : decode cX8_setNote 24 = .ok (.getfield 20, 3) := by decide +kernel
theorem dX8_setNote_27 : decode cX8_setNote 27 = .ok (.invokevirtual 107, 3) := by decide +kernel
theorem dX8_setNote_30 : decode cX8_setNote 30 = .ok (.aload_n 0, 1) := by decide +kernel
theorem dX8_setNote_31 : decode cX8_setNote 31 = .ok (.getfield 20, 3) := by decide +kernel
theorem dX8_setNote_34 : decode cX8_setNote 34 = .ok (.getfield 122, 3) := by decide +kernel
theorem dX8_setNote_37 : decode cX8_setNote 37 = .ok (.iload 4, 2) := by decide +kernel
theorem dX8_setNote_39 : decode cX8_setNote 39 = .ok (.iload_n 3, 1) := by decide +kernel
theorem dX8_setNote_40 : decode cX8_setNote 40 = .ok (.invokevirtual 184, 3) := by decide +kernel
theorem dX8_setNote_43 : decode cX8_setNote 43 = .ok (.ireturn, 1) := by decide +kernel
theorem dX8_note_0 : decode cX8_note 0 = .ok (.aload_n 0, 1) := by decide +kernel
theorem dX8_note_1 : decode cX8_note 1 = .ok (.invokevirtual 127, 3) := by decide +kernel
theorem dX8_note_4 : decode cX8_note 4 = .ok (.iload_n 2, 1) := by decide +kernel
theorem dX8_note_5 : decode cX8_note 5 = .ok (.iconst (-1), 1) := by decide +kernel
theorem dX8_note_6 : decode cX8_note 6 = .ok (.if_icmp .eq 20, 3) := by decide +kernel
theorem dX8_note_9 : decode cX8_note 9 = .ok (.aload_n 0, 1) := by decide +kernel
theorem dX8_note_10 : decode cX8_note 10 = .ok (.getfield 20, 3) := by decide +kernel
theorem dX8_note_13 : decode cX8_note 13 = .ok (.getfield 122, 3) := by decide +kernel
theorem dX8_note_16 : decode cX8_note 16 = .ok (.aload_n 0, 1) := by decide +kernel
theorem dX8_note_17 : decode cX8_note 17 = .ok (.iload_n 1, 1) := by decide +kernel
theorem dX8_note_18 : decode cX8_note 18 = .ok (.iload_n 2, 1) := by decide +kernel
theorem dX8_note_19 : decode cX8_note 19 = .ok (.invokevirtual 175, 3) := by decide +kernel
theorem dX8_note_22 : decode cX8_note 22 = .ok (.invokevirtual 186, 3) := by decide +kernel
theorem dX8_note_25 : decode cX8_note 25 = .ok (.ireturn, 1) := by decide +kernel
theorem dX8_note_26 : decode cX8_note 26 = .ok (.aload_n 0, 1) := by decide +kernel
theorem dX8_note_27 : decode cX8_note 27 = .ok (.iload_n 1, 1) := by decide +kernel
theorem dX8_note_28 : decode cX8_note 28 = .ok (.invokevirtual 189, 3) := by decide +kernel
theorem dX8_note_31 : decode cX8_note 31 = .ok (.aload_n 0, 1) := by decide +kernel
theorem dX8_note_32 : decode cX8_note 32 = .ok (.getfield 20, 3) := by decide +kernel
theorem dX8_note_35 : decode cX8_note 35 = .ok (.getfield 111, 3) := by decide +kernel
theorem dX8_note_38 : decode cX8_note 38 = .ok (.iload_n 1, 1) := by decide +kernel
theorem dX8_note_39 : decode cX8_note 39 = .ok (.invokevirtual 186, 3) := by decide +kernel
theorem dX8_note_42 : decode cX8_note 42 = .ok (.ireturn, 1) := by decide +kernel
theorem dX8_noteOf_0 : decode cX8_noteOf 0 = .ok (.iload_n 1, 1) := by decide +kernel
theorem dX8_noteOf_1 : decode cX8_noteOf 1 = .ok (.invokestatic 192, 3) := by decide +kernel
theorem dX8_noteOf_4 : decode cX8_noteOf 4 = .ok (.ifCond .ne 13, 3) := by decide +kernel
theorem dX8_noteOf_7 : decode cX8_noteOf 7 = .ok (.new 156, 3) := by decide +kernel
theorem dX8_noteOf_10 : decode cX8_noteOf 10 = .ok (.dup, 1) := by decide +kernel
theorem dX8_noteOf_11 : decode cX8_noteOf 11 = .ok (.ldc 196, 2) := by decide +kernel
theorem dX8_noteOf_13 : decode cX8_noteOf 13 = .ok (.invokespecial 160, 3) := by decide +kernel
theorem dX8_noteOf_16 : decode cX8_noteOf 16 = .ok (.athrow, 1) := by decide +kernel
theorem dX8_noteOf_17 : decode cX8_noteOf 17 = .ok (.iload_n 2, 1) := by decide +kernel
theorem dX8_noteOf_18 : decode cX8_noteOf 18 = .ok (.tableswitch 65 0 4 #[34, 39, 44, 49, 57], 34) := by decide +kernel
theorem dX8_noteOf_52 : decode cX8_noteOf 52 = .ok (.iload_n 1, 1) := by decide +kernel
theorem dX8_noteOf_53 : decode cX8_noteOf 53 = .ok (.invokestatic 198, 3) := by decide +kernel
theorem dX8_noteOf_56 : decode cX8_noteOf 56 = .ok (.ireturn, 1) := by decide +kernel
theorem dX8_noteOf_57 : decode cX8_noteOf 57 = .ok (.iload_n 1, 1) := by decide +kernel
theorem dX8_noteOf_58 : decode cX8_noteOf 58 = .ok (.invokestatic 201, 3) := by decide +kernel
theorem dX8_noteOf_61 : decode cX8_noteOf 61 = .ok (.ireturn, 1) := by decide +kernel
theorem dX8_noteOf_62 : decode cX8_noteOf 62 = .ok (.iload_n 1, 1) := by decide +kernel
theorem dX8_noteOf_63 : decode cX8_noteOf 63 = .ok (.invokestatic 204, 3) := by decide +kernel
theorem dX8_noteOf_66 : decode cX8_noteOf 66 = .ok (.ireturn, 1) := by decide +kernel
theorem dX8_noteOf_67 : decode cX8_noteOf 67 = .ok (.iload_n 1, 1) := by decide +kernel
theorem dX8_noteOf_68 : decode cX8_noteOf 68 = .ok (.invokestatic 198, 3) := by decide +kernel
theorem dX8_noteOf_71 : decode cX8_noteOf 71 = .ok (.bipush 7, 2) := by decide +kernel
theorem dX8_noteOf_73 : decode cX8_noteOf 73 = .ok (.irem, 1) := by decide +kernel
theorem dX8_noteOf_74 : decode cX8_noteOf 74 = .ok (.ireturn, 1) := by decide +kernel
theorem dX8_noteOf_75 : decode cX8_noteOf 75 = .ok (.iload_n 1, 1) := by decide +kernel
theorem dX8_noteOf_76 : decode cX8_noteOf 76 = .ok (.invokestatic 198, 3) := by decide +kernel
theorem dX8_noteOf_79 : decode cX8_noteOf 79 = .ok (.bipush 7, 2) := by decide +kernel
theorem dX8_noteOf_81 : decode cX8_noteOf 81 = .ok (.idiv, 1) := by decide +kernel
theorem dX8_noteOf_82 : decode cX8_noteOf 82 = .ok (.ireturn, 1) := by decide +kernel
theorem dX8_noteOf_83 : decode cX8_noteOf 83 = .ok (.new 78, 3) := by decide +kernel
theorem dX8_noteOf_86 : decode cX8_noteOf 86 = .ok (.dup, 1) := by decide +kernel
theorem dX8_noteOf_87 : decode cX8_noteOf 87 = .ok (.ldc 207, 2) := by decide +kernel
theorem dX8_noteOf_89 : decode cX8_noteOf 89 = .ok (.invokespecial 82, 3) := by decide +kernel
theorem dX8_noteOf_92 : decode cX8_noteOf 92 = .ok (.athrow, 1) := by decide +kernel
theorem dX8_text_0 : decode cX8_text 0 = .ok (.iload_n 1, 1) := by decide +kernel
theorem dX8_text_1 : decode cX8_text 1 = .ok (.ifCond .eq 13, 3) := by decide +kernel
theorem dX8_text_4 : decode cX8_text 4 = .ok (.aload_n 0, 1) := by decide +kernel
theorem dX8_text_5 : decode cX8_text 5 = .ok (.getfield 20, 3) := by decide +kernel
theorem dX8_text_8 : decode cX8_text 8 = .ok (.getfield 111, 3) := by decide +kernel
theorem dX8_text_11 : decode cX8_text 11 = .ok (.goto 10, 3) := by decide +kernel
theorem dX8_text_14 : decode cX8_text 14 = .ok (.aload_n 0, 1) := by decide +kernel
theorem dX8_text_15 : decode cX8_text 15 = .ok (.getfield 20, 3) := by decide +kernel
theorem dX8_text_18 : decode cX8_text 18 = .ok (.getfield 122, 3) := by decide +kernel
theorem dX8_text_21 : decode cX8_text 21 = .ok (.astore_n 3, 1) := by decide +kernel
theorem dX8_text_22 : decode cX8_text 22 = .ok (.aload_n 3, 1) := by decide +kernel
theorem dX8_text_23 : decode cX8_text 23 = .ok (.invokevirtual 126, 3) := by decide +kernel
theorem dX8_text_26 : decode cX8_text 26 = .ok (.ifCond .ne 13, 3) := by decide +kernel
theorem dX8_text_29 : decode cX8_text 29 = .ok (.new 89, 3) := by decide +kernel
theorem dX8_text_32 : decode cX8_text 32 = .ok (.dup, 1) := by decide +kernel
theorem dX8_text_33 : decode cX8_text 33 = .ok (.ldc 209, 2) := by decide +kernel
theorem dX8_text_35 : decode cX8_text 35 = .ok (.invokespecial 93, 3) := by decide +kernel
theorem dX8_text_38 : decode cX8_text 38 = .ok (.athrow, 1) := by decide +kernel
theorem dX8_text_39 : decode cX8_text 39 = .ok (.aload_n 0, 1) := by decide +kernel
theorem dX8_text_40 : decode cX8_text 40 = .ok (.getfield 67, 3) := by decide +kernel
theorem dX8_text_43 : decode cX8_text 43 = .ok (.invokevirtual 102, 3) := by decide +kernel
theorem dX8_text_46 : decode cX8_text 46 = .ok (.aload_n 0, 1) := by decide +kernel
theorem dX8_text_47 : decode cX8_text 47 = .ok (.getfield 67, 3) := by decide +kernel
theorem dX8_text_50 : decode cX8_text 50 = .ok (.aload_n 3, 1) := by decide +kernel
theorem dX8_text_51 : decode cX8_text 51 = .ok (.invokevirtual 211, 3) := by decide +kernel
theorem dX8_text_54 : decode cX8_text 54 = .ok (.aload_n 0, 1) := by decide +kernel
theorem dX8_text_55 : decode cX8_text 55 = .ok (.iload_n 2, 1) := by decide +kernel
theorem dX8_text_56 : decode cX8_text 56 = .ok (.invokevirtual 214, 3) := by decide +kernel
theorem dX8_text_59 : decode cX8_text 59 = .ok (.ireturn, 1) := by decide +kernel
theorem dX8_interval_0 : decode cX8_interval 0 = .ok (.aload_n 0, 1) := by decide +kernel
theorem dX8_interval_1 : decode cX8_interval 1 = .ok (.iload_n 1, 1) := by decide +kernel
theorem dX8_interval_2 : decode cX8_interval 2 = .ok (.iload_n 2, 1) := by decide +kernel
theorem dX8_interval_3 : decode cX8_interval 3 = .ok (.invokevirtual 175, 3) := by decide +kernel
theorem dX8_interval_6 : decode cX8_interval 6 = .ok (.istore 4, 2) := by decide +kernel
theorem dX8_interval_8 : decode cX8_interval 8 = .ok (.aload_n 0, 1) := by decide +kernel
theorem dX8_interval_9 : decode cX8_interval 9 = .ok (.iload 4, 2) := by decide +kernel
theorem dX8_interval_11 : decode cX8_interval 11 = .ok (.invokevirtual 181, 3) := by decide +kernel
theorem dX8_interval_14 : decode cX8_interval 14 = .ok (.aload_n 0, 1) := by decide +kernel
theorem dX8_interval_15 : decode cX8_interval 15 = .ok (.getfield 10, 3) := by decide +kernel
theorem dX8_interval_18 : decode cX8_interval 18 = .ok (.iload 4, 2) := by decide +kernel
theorem dX8_interval_20 : decode cX8_interval 20 = .ok (.invokevirtual 217, 3) := by decide +kernel
theorem dX8_interval_23 : decode cX8_interval 23 = .ok (.astore 5, 2) := by decide +kernel
theorem dX8_interval_25 : decode cX8_interval 25 = .ok (.iload_n 3, 1) := by decide +kernel
theorem dX8_interval_26 : decode cX8_interval 26 = .ok (.tableswitch 76 0 4 #[34, 40, 46, 52, 58], 34) := by decide +kernel
theorem dX8_interval_60 : decode cX8_interval 60 = .ok (.aload 5, 2) := by decide +kernel
theorem dX8_interval_62 : decode cX8_interval 62 = .ok (.invokevirtual 221, 3) := by decide +kernel
theorem dX8_interval_65 : decode cX8_interval 65 = .ok (.ireturn, 1) := by decide +kernel
theorem dX8_interval_66 : decode cX8_interval 66 = .ok (.aload 5, 2) := by decide +kernel
theorem dX8_interval_68 : decode cX8_interval 68 = .ok (.invokevirtual 226, 3) := by decide +kernel
theorem dX8_interval_71 : decode cX8_interval 71 = .ok (.ireturn, 1) := by decide +kernel
theorem dX8_interval_72 : decode cX8_interval 72 = .ok (.aload 5, 2) := by decide +kernel
theorem dX8_interval_74 : decode cX8_interval 74 = .ok (.invokevirtual 229, 3) := by decide +kernel
theorem dX8_interval_77 : decode cX8_interval 77 = .ok (.ireturn, 1) := by decide +kernel
theorem dX8_interval_78 : decode cX8_interval 78 = .ok (.aload 5, 2) := by decide +kernel
theorem dX8_interval_80 : decode cX8_interval 80 = .ok (.invokevirtual 232, 3) := by decide +kernel
theorem dX8_interval_83 : decode cX8_interval 83 = .ok (.ireturn, 1) := by decide +kernel
theorem dX8_interval_84 : decode cX8_interval 84 = .ok (.aload_n 0, 1) := by decide +kernel
theorem dX8_interval_85 : decode cX8_interval 85 = .ok (.getfield 20, 3) := by decide +kernel
theorem dX8_interval_88 : decode cX8_interval 88 = .ok (.iload 4, 2) := by decide +kernel
theorem dX8_interval_90 : decode cX8_interval 90 = .ok (.invokevirtual 235, 3) := by decide +kernel
theorem dX8_interval_93 : decode cX8_interval 93 = .ok (.ifCond .eq 7, 3) := by decide +kernel
theorem dX8_interval_96 : decode cX8_interval 96 = .ok (.iconst 1, 1) := by decide +kernel
theorem dX8_interval_97 : decode cX8_interval 97 = .ok (.goto 4, 3) := by decide +kernel
theorem dX8_interval_100 : decode cX8_interval 100 = .ok (.iconst 0, 1) := by decide +kernel
theorem dX8_interval_101 : decode cX8_interval 101 = .ok (.ireturn, 1) := by decide +kernel
theorem dX8_interval_102 : decode cX8_interval 102 = .ok (.new 78, 3) := by decide +kernel
theorem dX8_interval_105 : decode cX8_interval 105 = .ok (.dup, 1) := by decide +kernel
theorem dX8_interval_106 : decode cX8_interval 106 = .ok (.ldc 238, 2) := by decide +kernel
theorem dX8_interval_108 : decode cX8_interval 108 = .ok (.invokespecial 82, 3) := by decide +kernel
theorem dX8_interval_111 : decode cX8_interval 111 = .ok (.athrow, 1) := by decide +kernel
theorem dX8_motion_0 : decode cX8_motion 0 = .ok (.aload_n 0, 1) := by decide +kernel
theorem dX8_motion_1 : decode cX8_motion 1 = .ok (.invokevirtual 240, 3) := by decide +kernel
theorem dX8_motion_4 : decode cX8_motion 4 = .ok (.iload_n 1, 1) := by decide +kernel
theorem dX8_motion_5 : decode cX8_motion 5 = .ok (.ifCond .lt 19, 3) := by decide +kernel
theorem dX8_motion_8 : decode cX8_motion 8 = .ok (.iload_n 1, 1) := by decide +kernel
theorem dX8_motion_9 : decode cX8_motion 9 = .ok (.aload_n 0, 1) := by decide +kernel
theorem dX8_motion_10 : decode cX8_motion 10 = .ok (.getfield 20, 3) := by decide +kernel
theorem dX8_motion_13 : decode cX8_motion 13 = .ok (.getfield 111, 3) := by decide +kernel
theorem dX8_motion_16 : decode cX8_motion 16 = .ok (.invokevirtual 126, 3) := by decide +kernel
theorem dX8_motion_19 : decode cX8_motion 19 = .ok (.iconst 1, 1) := by decide +kernel
theorem dX8_motion_20 : decode cX8_motion 20 = .ok (.isub, 1) := by decide +kernel
theorem dX8_motion_21 : decode cX8_motion 21 = .ok (.if_icmp .lt 13, 3) := by decide +kernel
theorem dX8_motion_24 : decode cX8_motion 24 = .ok (.new 156, 3) := by decide +kernel
theorem dX8_motion_27 : decode cX8_motion 27 = .ok (.dup, 1) := by decide +kernel
theorem dX8_motion_28 : decode cX8_motion 28 = .ok (.ldc 243, 2) := by decide +kernel
theorem dX8_motion_30 : decode cX8_motion 30 = .ok (.invokespecial 160, 3) := by decide +kernel
theorem dX8_motion_33 : decode cX8_motion 33 = .ok (.athrow, 1) := by decide +kernel
theorem dX8_motion_34 : decode cX8_motion 34 = .ok (.aload_n 0, 1) := by decide +kernel
theorem dX8_motion_35 : decode cX8_motion 35 = .ok (.getfield 10, 3) := by decide +kernel
theorem dX8_motion_38 : decode cX8_motion 38 = .ok (.iload_n 1, 1) := by decide +kernel
theorem dX8_motion_39 : decode cX8_motion 39 = .ok (.invokevirtual 245, 3) := by decide +kernel
theorem dX8_motion_42 : decode cX8_motion 42 = .ok (.istore_n 2, 1) := by decide +kernel
theorem dX8_motion_43 : decode cX8_motion 43 = .ok (.iload_n 2, 1) := by decide +kernel
theorem dX8_motion_44 : decode cX8_motion 44 = .ok (.iconst (-1), 1) := by decide +kernel
theorem dX8_motion_45 : decode cX8_motion 45 = .ok (.if_icmp .ne 13, 3) := by decide +kernel
theorem dX8_motion_48 : decode cX8_motion 48 = .ok (.new 248, 3) := by decide +kernel
theorem dX8_motion_51 : decode cX8_motion 51 = .ok (.dup, 1) := by decide +kernel
theorem dX8_motion_52 : decode cX8_motion 52 = .ok (.ldc 250, 2) := by decide +kernel
theorem dX8_motion_54 : decode cX8_motion 54 = .ok (.invokespecial 252, 3) := by decide +kernel
theorem dX8_motion_57 : decode cX8_motion 57 = .ok (.athrow, 1) := by decide +kernel
theorem dX8_motion_58 : decode cX8_motion 58 = .ok (.iload_n 2, 1) := by decide +kernel
theorem dX8_motion_59 : decode cX8_motion 59 = .ok (.ireturn, 1) := by decide +kernel
theorem dX8_motions_0 : decode cX8_motions 0 = .ok (.aload_n 0, 1) := by decide +kernel
theorem dX8_motions_1 : decode cX8_motions 1 = .ok (.invokevirtual 240, 3) := by decide +kernel
theorem dX8_motions_4 : decode cX8_motions 4 = .ok (.iload_n 1, 1) := by decide +kernel
theorem dX8_motions_5 : decode cX8_motions 5 = .ok (.ifCond .lt 8, 3) := by decide +kernel
theorem dX8_motions_8 : decode cX8_motions 8 = .ok (.iload_n 1, 1) := by decide +kernel
theorem dX8_motions_9 : decode cX8_motions 9 = .ok (.iconst 4, 1) := by decide +kernel
theorem dX8_motions_10 : decode cX8_motions 10 = .ok (.if_icmp .le 13, 3) := by decide +kernel
theorem dX8_motions_13 : decode cX8_motions 13 = .ok (.new 78, 3) := by decide +kernel
theorem dX8_motions_16 : decode cX8_motions 16 = .ok (.dup, 1) := by decide +kernel
theorem dX8_motions_17 : decode cX8_motions 17 = .ok (.ldc 253, 2) := by decide +kernel
theorem dX8_motions_19 : decode cX8_motions 19 = .ok (.invokespecial 82, 3) := by decide +kernel
theorem dX8_motions_22 : decode cX8_motions 22 = .ok (.athrow, 1) := by decide +kernel
theorem dX8_motions_23 : decode cX8_motions 23 = .ok (.aload_n 0, 1) := by decide +kernel
theorem dX8_motions_24 : decode cX8_motions 24 = .ok (.getfield 10, 3) := by decide +kernel
theorem dX8_motions_27 : decode cX8_motions 27 = .ok (.iload_n 1, 1) := by decide +kernel
theorem dX8_motions_28 : decode cX8_motions 28 = .ok (.invokevirtual 255, 3) := by decide +kernel
theorem dX8_motions_31 : decode cX8_motions 31 = .ok (.ireturn, 1) := by decide +kernel
theorem dX8_contraryBits_0 : decode cX8_contraryBits 0 = .ok (.aload_n 0, 1) := by decide +kernel
theorem dX8_contraryBits_1 : decode cX8_contraryBits 1 = .ok (.invokevirtual 240, 3) := by decide +kernel
theorem dX8_contraryBits_4 : decode cX8_contraryBits 4 = .ok (.aload_n 0, 1) := by decide +kernel
theorem dX8_contraryBits_5 : decode cX8_contraryBits 5 = .ok (.getfield 10, 3) := by decide +kernel
theorem dX8_contraryBits_8 : decode cX8_contraryBits 8 = .ok (.iconst (-1), 1) := by decide +kernel
theorem dX8_contraryBits_9 : decode cX8_contraryBits 9 = .ok (.invokevirtual 255, 3) := by decide +kernel
theorem dX8_contraryBits_12 : decode cX8_contraryBits 12 = .ok (.istore_n 1, 1) := by decide +kernel
theorem dX8_contraryBits_13 : decode cX8_contraryBits 13 = .ok (.iload_n 1, 1) := by decide +kernel
theorem dX8_contraryBits_14 : decode cX8_contraryBits 14 = .ok (.ifCond .ne 14, 3) := by decide +kernel
theorem dX8_contraryBits_17 : decode cX8_contraryBits 17 = .ok (.new 258, 3) := by decide +kernel
theorem dX8_contraryBits_20 : decode cX8_contraryBits 20 = .ok (.dup, 1) := by decide +kernel
theorem dX8_contraryBits_21 : decode cX8_contraryBits 21 = .ok (.ldc_w 260, 3) := by decide +kernel
theorem dX8_contraryBits_24 : decode cX8_contraryBits 24 = .ok (.invokespecial 262, 3) := by decide +kernel
theorem dX8_contraryBits_27 : decode cX8_contraryBits 27 = .ok (.athrow, 1) := by decide +kernel
theorem dX8_contraryBits_28 : decode cX8_contraryBits 28 = .ok (.aload_n 0, 1) := by decide +kernel
theorem dX8_contraryBits_29 : decode cX8_contraryBits 29 = .ok (.getfield 10, 3) := by decide +kernel
theorem dX8_contraryBits_32 : decode cX8_contraryBits 32 = .ok (.iconst 2, 1) := by decide +kernel
theorem dX8_contraryBits_33 : decode cX8_contraryBits 33 = .ok (.invokevirtual 255, 3) := by decide +kernel
theorem dX8_contraryBits_36 : decode cX8_contraryBits 36 = .ok (.i2l, 1) := by decide +kernel
theorem dX8_contraryBits_37 : decode cX8_contraryBits 37 = .ok (.iload_n 1, 1) := by decide +kernel
theorem dX8_contraryBits_38 : decode cX8_contraryBits 38 = .ok (.i2l, 1) := by decide +kernel
theorem dX8_contraryBits_39 : decode cX8_contraryBits 39 = .ok (.bipush 23, 2) := by decide +kernel
theorem dX8_contraryBits_41 : decode cX8_contraryBits 41 = .ok (.bipush 127, 2) := by decide +kernel
theorem dX8_contraryBits_43 : decode cX8_contraryBits 43 = .ok (.invokestatic 263, 3) := by decide +kernel
theorem dX8_contraryBits_46 : decode cX8_contraryBits 46 = .ok (.l2i, 1) := by decide +kernel
theorem dX8_contraryBits_47 : decode cX8_contraryBits 47 = .ok (.ireturn, 1) := by decide +kernel
theorem dX8_meanBits_0 : decode cX8_meanBits 0 = .ok (.aload_n 0, 1) := by decide +kernel
theorem dX8_meanBits_1 : decode cX8_meanBits 1 = .ok (.invokevirtual 240, 3) := by decide +kernel
theorem dX8_meanBits_4 : decode cX8_meanBits 4 = .ok (.iconst 0, 1) := by decide +kernel
theorem dX8_meanBits_5 : decode cX8_meanBits 5 = .ok (.istore_n 1, 1) := by decide +kernel
theorem dX8_meanBits_6 : decode cX8_meanBits 6 = .ok (.iconst 0, 1) := by decide +kernel
theorem dX8_meanBits_7 : decode cX8_meanBits 7 = .ok (.istore_n 2, 1) := by decide +kernel
theorem dX8_meanBits_8 : decode cX8_meanBits 8 = .ok (.iconst 0, 1) := by decide +kernel
theorem dX8_meanBits_9 : decode cX8_meanBits 9 = .ok (.istore_n 3, 1) := by decide +kernel
theorem dX8_meanBits_10 : decode cX8_meanBits 10 = .ok (.iload_n 3, 1) := by decide +kernel
theorem dX8_meanBits_11 : decode cX8_meanBits 11 = .ok (.aload_n 0, 1) := by decide +kernel
theorem dX8_meanBits_12 : decode cX8_meanBits 12 = .ok (.getfield 20, 3) := by decide +kernel
theorem dX8_meanBits_15 : decode cX8_meanBits 15 = .ok (.getfield 122, 3) := by decide +kernel
theorem dX8_meanBits_18 : decode cX8_meanBits 18 = .ok (.invokevirtual 126, 3) := by decide +kernel
theorem dX8_meanBits_21 : decode cX8_meanBits 21 = .ok (.if_icmp .ge 41, 3) := by decide +kernel
theorem dX8_meanBits_24 : decode cX8_meanBits 24 = .ok (.aload_n 0, 1) := by decide +kernel
theorem dX8_meanBits_25 : decode cX8_meanBits 25 = .ok (.getfield 20, 3) := by decide +kernel
theorem dX8_meanBits_28 : decode cX8_meanBits 28 = .ok (.getfield 122, 3) := by decide +kernel
theorem dX8_meanBits_31 : decode cX8_meanBits 31 = .ok (.iload_n 3, 1) := by decide +kernel
theorem dX8_meanBits_32 : decode cX8_meanBits 32 = .ok (.invokevirtual 186, 3) := by decide +kernel
theorem dX8_meanBits_35 : decode cX8_meanBits 35 = .ok (.iconst (-1), 1) := by decide +kernel
theorem dX8_meanBits_36 : decode cX8_meanBits 36 = .ok (.if_icmp .eq 20, 3) := by decide +kernel
theorem dX8_meanBits_39 : decode cX8_meanBits 39 = .ok (.iload_n 1, 1) := by decide +kernel
theorem dX8_meanBits_40 : decode cX8_meanBits 40 = .ok (.aload_n 0, 1) := by decide +kernel
theorem dX8_meanBits_41 : decode cX8_meanBits 41 = .ok (.getfield 10, 3) := by decide +kernel
theorem dX8_meanBits_44 : decode cX8_meanBits 44 = .ok (.iload_n 3, 1) := by decide +kernel
theorem dX8_meanBits_45 : decode cX8_meanBits 45 = .ok (.invokevirtual 217, 3) := by decide +kernel
theorem dX8_meanBits_48 : decode cX8_meanBits 48 = .ok (.invokevirtual 226, 3) := by decide +kernel
theorem dX8_meanBits_51 : decode cX8_meanBits 51 = .ok (.iadd, 1) := by decide +kernel
theorem dX8_meanBits_52 : decode cX8_meanBits 52 = .ok (.istore_n 1, 1) := by decide +kernel
theorem dX8_meanBits_53 : decode cX8_meanBits 53 = .ok (.iinc 2 1, 3) := by decide +kernel
theorem dX8_meanBits_56 : decode cX8_meanBits 56 = .ok (.iinc 3 1, 3) := by decide +kernel
theorem dX8_meanBits_59 : decode cX8_meanBits 59 = .ok (.goto (-49), 3) := by decide +kernel
theorem dX8_meanBits_62 : decode cX8_meanBits 62 = .ok (.iload_n 1, 1) := by decide +kernel
theorem dX8_meanBits_63 : decode cX8_meanBits 63 = .ok (.i2l, 1) := by decide +kernel
theorem dX8_meanBits_64 : decode cX8_meanBits 64 = .ok (.iload_n 2, 1) := by decide +kernel
theorem dX8_meanBits_65 : decode cX8_meanBits 65 = .ok (.i2l, 1) := by decide +kernel
theorem dX8_meanBits_66 : decode cX8_meanBits 66 = .ok (.bipush 52, 2) := by decide +kernel
theorem dX8_meanBits_68 : decode cX8_meanBits 68 = .ok (.sipush 1023, 3) := by decide +kernel
theorem dX8_meanBits_71 : decode cX8_meanBits 71 = .ok (.invokestatic 263, 3) := by decide +kernel
theorem dX8_meanBits_74 : decode cX8_meanBits 74 = .ok (.lreturn, 1) := by decide +kernel
theorem dX8_setWeight_0 : decode cX8_setWeight 0 = .ok (.aload_n 0, 1) := by decide +kernel
theorem dX8_setWeight_1 : decode cX8_setWeight 1 = .ok (.iload_n 1, 1) := by decide +kernel
theorem dX8_setWeight_2 : decode cX8_setWeight 2 = .ok (.invokevirtual 267, 3) := by decide +kernel
theorem dX8_setWeight_5 : decode cX8_setWeight 5 = .ok (.iload_n 2, 1) := by decide +kernel
theorem dX8_setWeight_6 : decode cX8_setWeight 6 = .ok (.ifCond .lt 9, 3) := by decide +kernel
theorem dX8_setWeight_9 : decode cX8_setWeight 9 = .ok (.iload_n 2, 1) := by decide +kernel
theorem dX8_setWeight_10 : decode cX8_setWeight 10 = .ok (.bipush 9, 2) := by decide +kernel
theorem dX8_setWeight_12 : decode cX8_setWeight 12 = .ok (.if_icmp .le 14, 3) := by decide +kernel
theorem dX8_setWeight_15 : decode cX8_setWeight 15 = .ok (.new 78, 3) := by decide +kernel
theorem dX8_setWeight_18 : decode cX8_setWeight 18 = .ok (.dup, 1) := by decide +kernel
theorem dX8_setWeight_19 : decode cX8_setWeight 19 = .ok (.ldc_w 270, 3) := by decide +kernel
theorem dX8_setWeight_22 : decode cX8_setWeight 22 = .ok (.invokespecial 82, 3) := by decide +kernel
theorem dX8_setWeight_25 : decode cX8_setWeight 25 = .ok (.athrow, 1) := by decide +kernel
theorem dX8_setWeight_26 : decode cX8_setWeight 26 = .ok (.aload_n 0, 1) := by decide +kernel
theorem dX8_setWeight_27 : decode cX8_setWeight 27 = .ok (.getfield 32, 3) := by decide +kernel
theorem dX8_setWeight_30 : decode cX8_setWeight 30 = .ok (.aload_n 0, 1) := by decide +kernel
theorem dX8_setWeight_31 : decode cX8_setWeight 31 = .ok (.getfield 20, 3) := by decide +kernel
theorem dX8_setWeight_34 : decode cX8_setWeight 34 = .ok (.invokevirtual 107, 3) := by decide +kernel
theorem dX8_setWeight_37 : decode cX8_setWeight 37 = .ok (.aload_n 0, 1) := by decide +kernel
theorem dX8_setWeight_38 : decode cX8_setWeight 38 = .ok (.getfield 20, 3) := by decide +kernel
theorem dX8_setWeight_41 : decode cX8_setWeight 41 = .ok (.iload_n 1, 1) := by decide +kernel
theorem dX8_setWeight_42 : decode cX8_setWeight 42 = .ok (.invokevirtual 272, 3) := by decide +kernel
theorem dX8_setWeight_45 : decode cX8_setWeight 45 = .ok (.istore_n 3, 1) := by decide +kernel
theorem dX8_setWeight_46 : decode cX8_setWeight 46 = .ok (.aload_n 0, 1) := by decide +kernel
theorem dX8_setWeight_47 : decode cX8_setWeight 47 = .ok (.getfield 20, 3) := by decide +kernel
theorem dX8_setWeight_50 : decode cX8_setWeight 50 = .ok (.iload_n 1, 1) := by decide +kernel
theorem dX8_setWeight_51 : decode cX8_setWeight 51 = .ok (.iload_n 2, 1) := by decide +kernel
theorem dX8_setWeight_52 : decode cX8_setWeight 52 = .ok (.invokevirtual 275, 3) := by decide +kernel
theorem dX8_setWeight_55 : decode cX8_setWeight 55 = .ok (.iload_n 3, 1) := by decide +kernel
theorem dX8_setWeight_56 : decode cX8_setWeight 56 = .ok (.ireturn, 1) := by decide +kernel
theorem dX8_weights_0 : decode cX8_weights 0 = .ok (.aload_n 0, 1) := by decide +kernel
theorem dX8_weights_1 : decode cX8_weights 1 = .ok (.aload_n 0, 1) := by decide +kernel
theorem dX8_weights_2 : decode cX8_weights 2 = .ok (.getfield 53, 3) := by decide +kernel
theorem dX8_weights_5 : decode cX8_weights 5 = .ok (.invokevirtual 278, 3) := by decide +kernel
theorem dX8_weights_8 : decode cX8_weights 8 = .ok (.putfield 74, 3) := by decide +kernel
theorem dX8_weights_11 : decode cX8_weights 11 = .ok (.aload_n 0, 1) := by decide +kernel
theorem dX8_weights_12 : decode cX8_weights 12 = .ok (.getfield 61, 3) := by decide +kernel
theorem dX8_weights_15 : decode cX8_weights 15 = .ok (.invokevirtual 102, 3) := by decide +kernel
theorem dX8_weights_18 : decode cX8_weights 18 = .ok (.aload_n 0, 1) := by decide +kernel
theorem dX8_weights_19 : decode cX8_weights 19 = .ok (.getfield 74, 3) := by decide +kernel
theorem dX8_weights_22 : decode cX8_weights 22 = .ok (.iconst (-1), 1) := by decide +kernel
theorem dX8_weights_23 : decode cX8_weights 23 = .ok (.if_icmp .eq 14, 3) := by decide +kernel
theorem dX8_weights_26 : decode cX8_weights 26 = .ok (.new 78, 3) := by decide +kernel
theorem dX8_weights_29 : decode cX8_weights 29 = .ok (.dup, 1) := by decide +kernel
theorem dX8_weights_30 : decode cX8_weights 30 = .ok (.ldc_w 281, 3) := by decide +kernel
theorem dX8_weights_33 : decode cX8_weights 33 = .ok (.invokespecial 82, 3) := by decide +kernel
theorem dX8_weights_36 : decode cX8_weights 36 = .ok (.athrow, 1) := by decide +kernel
theorem dX8_weights_37 : decode cX8_weights 37 = .ok (.aload_n 0, 1) := by decide +kernel
theorem dX8_weights_38 : decode cX8_weights 38 = .ok (.getfield 32, 3) := by decide +kernel
theorem dX8_weights_41 : decode cX8_weights 41 = .ok (.aload_n 0, 1) := by decide +kernel
theorem dX8_weights_42 : decode cX8_weights 42 = .ok (.getfield 20, 3) := by decide +kernel
theorem dX8_weights_45 : decode cX8_weights 45 = .ok (.invokevirtual 107, 3) := by decide +kernel
theorem dX8_weights_48 : decode cX8_weights 48 = .ok (.iconst 1, 1) := by decide +kernel
theorem dX8_weights_49 : decode cX8_weights 49 = .ok (.istore_n 1, 1) := by decide +kernel
theorem dX8_weights_50 : decode cX8_weights 50 = .ok (.iload_n 1, 1) := by decide +kernel
theorem dX8_weights_51 : decode cX8_weights 51 = .ok (.bipush 16, 2) := by decide +kernel
theorem dX8_weights_53 : decode cX8_weights 53 = .ok (.if_icmp .gt 32, 3) := by decide +kernel
theorem dX8_weights_56 : decode cX8_weights 56 = .ok (.aload_n 0, 1) := by decide +kernel
theorem dX8_weights_57 : decode cX8_weights 57 = .ok (.getfield 53, 3) := by decide +kernel
theorem dX8_weights_60 : decode cX8_weights 60 = .ok (.iload_n 1, 1) := by decide +kernel
theorem dX8_weights_61 : decode cX8_weights 61 = .ok (.invokevirtual 283, 3) := by decide +kernel
theorem dX8_weights_64 : decode cX8_weights 64 = .ok (.istore_n 2, 1) := by decide +kernel
theorem dX8_weights_65 : decode cX8_weights 65 = .ok (.iload_n 2, 1) := by decide +kernel
theorem dX8_weights_66 : decode cX8_weights 66 = .ok (.iconst (-1), 1) := by decide +kernel
theorem dX8_weights_67 : decode cX8_weights 67 = .ok (.if_icmp .eq 12, 3) := by decide +kernel
theorem dX8_weights_70 : decode cX8_weights 70 = .ok (.aload_n 0, 1) := by decide +kernel
theorem dX8_weights_71 : decode cX8_weights 71 = .ok (.getfield 20, 3) := by decide +kernel
theorem dX8_weights_74 : decode cX8_weights 74 = .ok (.iload_n 1, 1) := by decide +kernel
theorem dX8_weights_75 : decode cX8_weights 75 = .ok (.iload_n 2, 1) := by decide +kernel
theorem dX8_weights_76 : decode cX8_weights 76 = .ok (.invokevirtual 275, 3) := by decide +kernel
theorem dX8_weights_79 : decode cX8_weights 79 = .ok (.iinc 1 1, 3) := by decide +kernel
theorem dX8_weights_82 : decode cX8_weights 82 = .ok (.goto (-32), 3) := by decide +kernel
theorem dX8_weights_85 : decode cX8_weights 85 = .ok (.aload_n 0, 1) := by decide +kernel
theorem dX8_weights_86 : decode cX8_weights 86 = .ok (.getfield 53, 3) := by decide +kernel
theorem dX8_weights_89 : decode cX8_weights 89 = .ok (.invokevirtual 286, 3) := by decide +kernel
theorem dX8_weights_92 : decode cX8_weights 92 = .ok (.ireturn, 1) := by decide +kernel
theorem dX8_weight_0 : decode cX8_weight 0 = .ok (.aload_n 0, 1) := by decide +kernel
theorem dX8_weight_1 : decode cX8_weight 1 = .ok (.iload_n 1, 1) := by decide +kernel
theorem dX8_weight_2 : decode cX8_weight 2 = .ok (.invokevirtual 267, 3) := by decide +kernel
theorem dX8_weight_5 : decode cX8_weight 5 = .ok (.aload_n 0, 1) := by decide +kernel
theorem dX8_weight_6 : decode cX8_weight 6 = .ok (.getfield 20, 3) := by decide +kernel
theorem dX8_weight_9 : decode cX8_weight 9 = .ok (.iload_n 1, 1) := by decide +kernel
theorem dX8_weight_10 : decode cX8_weight 10 = .ok (.invokevirtual 272, 3) := by decide +kernel
theorem dX8_weight_13 : decode cX8_weight 13 = .ok (.ireturn, 1) := by decide +kernel
theorem dX8_fault_0 : decode cX8_fault 0 = .ok (.aload_n 0, 1) := by decide +kernel
theorem dX8_fault_1 : decode cX8_fault 1 = .ok (.iload_n 1, 1) := by decide +kernel
theorem dX8_fault_2 : decode cX8_fault 2 = .ok (.invokevirtual 289, 3) := by decide +kernel
theorem dX8_fault_5 : decode cX8_fault 5 = .ok (.iload_n 2, 1) := by decide +kernel
theorem dX8_fault_6 : decode cX8_fault 6 = .ok (.tableswitch 62 0 3 #[30, 38, 46, 54], 30) := by decide +kernel
theorem dX8_fault_36 : decode cX8_fault 36 = .ok (.aload_n 0, 1) := by decide +kernel
theorem dX8_fault_37 : decode cX8_fault 37 = .ok (.getfield 10, 3) := by decide +kernel
theorem dX8_fault_40 : decode cX8_fault 40 = .ok (.invokevirtual 292, 3) := by decide +kernel
theorem dX8_fault_43 : decode cX8_fault 43 = .ok (.ireturn, 1) := by decide +kernel
theorem dX8_fault_44 : decode cX8_fault 44 = .ok (.aload_n 0, 1) := by decide +kernel
theorem dX8_fault_45 : decode cX8_fault 45 = .ok (.getfield 10, 3) := by decide +kernel
theorem dX8_fault_48 : decode cX8_fault 48 = .ok (.invokevirtual 295, 3) := by decide +kernel
theorem dX8_fault_51 : decode cX8_fault 51 = .ok (.ireturn, 1) := by decide +kernel
theorem dX8_fault_52 : decode cX8_fault 52 = .ok (.aload_n 0, 1) := by decide +kernel
theorem dX8_fault_53 : decode cX8_fault 53 = .ok (.getfield 10, 3) := by decide +kernel
theorem dX8_fault_56 : decode cX8_fault 56 = .ok (.invokevirtual 298, 3) := by decide +kernel
theorem dX8_fault_59 : decode cX8_fault 59 = .ok (.ireturn, 1) := by decide +kernel
theorem dX8_fault_60 : decode cX8_fault 60 = .ok (.aload_n 0, 1) := by decide +kernel
theorem dX8_fault_61 : decode cX8_fault 61 = .ok (.getfield 10, 3) := by decide +kernel
theorem dX8_fault_64 : decode cX8_fault 64 = .ok (.invokevirtual 301, 3) := by decide +kernel
theorem dX8_fault_67 : decode cX8_fault 67 = .ok (.ireturn, 1) := by decide +kernel
theorem dX8_fault_68 : decode cX8_fault 68 = .ok (.new 78, 3) := by decide +kernel
theorem dX8_fault_71 : decode cX8_fault 71 = .ok (.dup, 1) := by decide +kernel
theorem dX8_fault_72 : decode cX8_fault 72 = .ok (.ldc_w 304, 3) := by decide +kernel
theorem dX8_fault_75 : decode cX8_fault 75 = .ok (.invokespecial 82, 3) := by decide +kernel
theorem dX8_fault_78 : decode cX8_fault 78 = .ok (.athrow, 1) := by decide +kernel
theorem dX8_explain_0 : decode cX8_explain 0 = .ok (.aload_n 0, 1) := by decide +kernel
theorem dX8_explain_1 : decode cX8_explain 1 = .ok (.iload_n 1, 1) := by decide +kernel
theorem dX8_explain_2 : decode cX8_explain 2 = .ok (.invokevirtual 289, 3) := by decide +kernel
theorem dX8_explain_5 : decode cX8_explain 5 = .ok (.aload_n 0, 1) := by decide +kernel
theorem dX8_explain_6 : decode cX8_explain 6 = .ok (.getfield 67, 3) := by decide +kernel
theorem dX8_explain_9 : decode cX8_explain 9 = .ok (.invokevirtual 102, 3) := by decide +kernel
theorem dX8_explain_12 : decode cX8_explain 12 = .ok (.aload_n 0, 1) := by decide +kernel
theorem dX8_explain_13 : decode cX8_explain 13 = .ok (.getfield 67, 3) := by decide +kernel
theorem dX8_explain_16 : decode cX8_explain 16 = .ok (.aload_n 0, 1) := by decide +kernel
theorem dX8_explain_17 : decode cX8_explain 17 = .ok (.getfield 10, 3) := by decide +kernel
theorem dX8_explain_20 : decode cX8_explain 20 = .ok (.invokevirtual 295, 3) := by decide +kernel
theorem dX8_explain_23 : decode cX8_explain 23 = .ok (.iconst 1, 1) := by decide +kernel
theorem dX8_explain_24 : decode cX8_explain 24 = .ok (.iadd, 1) := by decide +kernel
theorem dX8_explain_25 : decode cX8_explain 25 = .ok (.invokevirtual 306, 3) := by decide +kernel
theorem dX8_explain_28 : decode cX8_explain 28 = .ok (.aload_n 0, 1) := by decide +kernel
theorem dX8_explain_29 : decode cX8_explain 29 = .ok (.getfield 67, 3) := by decide +kernel
theorem dX8_explain_32 : decode cX8_explain 32 = .ok (.bipush 46, 2) := by decide +kernel
theorem dX8_explain_34 : decode cX8_explain 34 = .ok (.invokevirtual 94, 3) := by decide +kernel
theorem dX8_explain_37 : decode cX8_explain 37 = .ok (.aload_n 0, 1) := by decide +kernel
theorem dX8_explain_38 : decode cX8_explain 38 = .ok (.getfield 67, 3) := by decide +kernel
theorem dX8_explain_41 : decode cX8_explain 41 = .ok (.aload_n 0, 1) := by decide +kernel
theorem dX8_explain_42 : decode cX8_explain 42 = .ok (.getfield 10, 3) := by decide +kernel
theorem dX8_explain_45 : decode cX8_explain 45 = .ok (.invokevirtual 298, 3) := by decide +kernel
theorem dX8_explain_48 : decode cX8_explain 48 = .ok (.iconst 1, 1) := by decide +kernel
theorem dX8_explain_49 : decode cX8_explain 49 = .ok (.iadd, 1) := by decide +kernel
theorem dX8_explain_50 : decode cX8_explain 50 = .ok (.invokevirtual 306, 3) := by decide +kernel
theorem dX8_explain_53 : decode cX8_explain 53 = .ok (.aload_n 0, 1) := by decide +kernel
theorem dX8_explain_54 : decode cX8_explain 54 = .ok (.getfield 67, 3) := by decide +kernel
theorem dX8_explain_57 : decode cX8_explain 57 = .ok (.bipush 58, 2) := by decide +kernel
theorem dX8_explain_59 : decode cX8_explain 59 = .ok (.invokevirtual 94, 3) := by decide +kernel
theorem dX8_explain_62 : decode cX8_explain 62 = .ok (.aload_n 0, 1) := by decide +kernel
theorem dX8_explain_63 : decode cX8_explain 63 = .ok (.getfield 67, 3) := by decide +kernel
theorem dX8_explain_66 : decode cX8_explain 66 = .ok (.aload_n 0, 1) := by decide +kernel
theorem dX8_explain_67 : decode cX8_explain 67 = .ok (.getfield 10, 3) := by decide +kernel
theorem dX8_explain_70 : decode cX8_explain 70 = .ok (.invokevirtual 292, 3) := by decide +kernel
theorem dX8_explain_73 : decode cX8_explain 73 = .ok (.invokestatic 309, 3) := by decide +kernel
theorem dX8_explain_76 : decode cX8_explain 76 = .ok (.invokevirtual 313, 3) := by decide +kernel
theorem dX8_explain_79 : decode cX8_explain 79 = .ok (.aload_n 0, 1) := by decide +kernel
theorem dX8_explain_80 : decode cX8_explain 80 = .ok (.getfield 67, 3) := by decide +kernel
theorem dX8_explain_83 : decode cX8_explain 83 = .ok (.bipush 61, 2) := by decide +kernel
theorem dX8_explain_85 : decode cX8_explain 85 = .ok (.invokevirtual 94, 3) := by decide +kernel
theorem dX8_explain_88 : decode cX8_explain 88 = .ok (.aload_n 0, 1) := by decide +kernel
theorem dX8_explain_89 : decode cX8_explain 89 = .ok (.getfield 67, 3) := by decide +kernel
theorem dX8_explain_92 : decode cX8_explain 92 = .ok (.aload_n 0, 1) := by decide +kernel
theorem dX8_explain_93 : decode cX8_explain 93 = .ok (.getfield 10, 3) := by decide +kernel
theorem dX8_explain_96 : decode cX8_explain 96 = .ok (.invokevirtual 301, 3) := by decide +kernel
theorem dX8_explain_99 : decode cX8_explain 99 = .ok (.invokevirtual 306, 3) := by decide +kernel
theorem dX8_explain_102 : decode cX8_explain 102 = .ok (.aload_n 0, 1) := by decide +kernel
theorem dX8_explain_103 : decode cX8_explain 103 = .ok (.iload_n 2, 1) := by decide +kernel
theorem dX8_explain_104 : decode cX8_explain 104 = .ok (.invokevirtual 214, 3) := by decide +kernel
theorem dX8_explain_107 : decode cX8_explain 107 = .ok (.ireturn, 1) := by decide +kernel
theorem dX8_faults_0 : decode cX8_faults 0 = .ok (.aload_n 0, 1) := by decide +kernel
theorem dX8_faults_1 : decode cX8_faults 1 = .ok (.invokevirtual 240, 3) := by decide +kernel
theorem dX8_faults_4 : decode cX8_faults 4 = .ok (.iload_n 1, 1) := by decide +kernel
theorem dX8_faults_5 : decode cX8_faults 5 = .ok (.ifCond .ne 13, 3) := by decide +kernel
theorem dX8_faults_8 : decode cX8_faults 8 = .ok (.aload_n 0, 1) := by decide +kernel
theorem dX8_faults_9 : decode cX8_faults 9 = .ok (.getfield 10, 3) := by decide +kernel
theorem dX8_faults_12 : decode cX8_faults 12 = .ok (.iconst (-1), 1) := by decide +kernel
theorem dX8_faults_13 : decode cX8_faults 13 = .ok (.iconst (-1), 1) := by decide +kernel
theorem dX8_faults_14 : decode cX8_faults 14 = .ok (.invokevirtual 138, 3) := by decide +kernel
theorem dX8_faults_17 : decode cX8_faults 17 = .ok (.ireturn, 1) := by decide +kernel
theorem dX8_faults_18 : decode cX8_faults 18 = .ok (.aload_n 0, 1) := by decide +kernel
theorem dX8_faults_19 : decode cX8_faults 19 = .ok (.iload_n 1, 1) := by decide +kernel
theorem dX8_faults_20 : decode cX8_faults 20 = .ok (.invokevirtual 267, 3) := by decide +kernel
theorem dX8_faults_23 : decode cX8_faults 23 = .ok (.aload_n 0, 1) := by decide +kernel
theorem dX8_faults_24 : decode cX8_faults 24 = .ok (.getfield 10, 3) := by decide +kernel
theorem dX8_faults_27 : decode cX8_faults 27 = .ok (.iload_n 1, 1) := by decide +kernel
theorem dX8_faults_28 : decode cX8_faults 28 = .ok (.iconst (-1), 1) := by decide +kernel
theorem dX8_faults_29 : decode cX8_faults 29 = .ok (.invokevirtual 138, 3) := by decide +kernel
theorem dX8_faults_32 : decode cX8_faults 32 = .ok (.ireturn, 1) := by decide +kernel
theorem dX8_faultsIn_0 : decode cX8_faultsIn 0 = .ok (.aload_n 0, 1) := by decide +kernel
theorem dX8_faultsIn_1 : decode cX8_faultsIn 1 = .ok (.invokevirtual 240, 3) := by decide +kernel
theorem dX8_faultsIn_4 : decode cX8_faultsIn 4 = .ok (.aload_n 0, 1) := by decide +kernel
theorem dX8_faultsIn_5 : decode cX8_faultsIn 5 = .ok (.iload_n 1, 1) := by decide +kernel
theorem dX8_faultsIn_6 : decode cX8_faultsIn 6 = .ok (.invokevirtual 189, 3) := by decide +kernel
theorem dX8_faultsIn_9 : decode cX8_faultsIn 9 = .ok (.aload_n 0, 1) := by decide +kernel
theorem dX8_faultsIn_10 : decode cX8_faultsIn 10 = .ok (.getfield 10, 3) := by decide +kernel
theorem dX8_faultsIn_13 : decode cX8_faultsIn 13 = .ok (.iconst (-1), 1) := by decide +kernel
theorem dX8_faultsIn_14 : decode cX8_faultsIn 14 = .ok (.iload_n 1, 1) := by decide +kernel
theorem dX8_faultsIn_15 : decode cX8_faultsIn 15 = .ok (.invokevirtual 138, 3) := by decide +kernel
theorem dX8_faultsIn_18 : decode cX8_faultsIn 18 = .ok (.ireturn, 1) := by decide +kernel
theorem dX8_cost_0 : decode cX8_cost 0 = .ok (.aload_n 0, 1) := by decide +kernel
theorem dX8_cost_1 : decode cX8_cost 1 = .ok (.invokevirtual 240, 3) := by decide +kernel
theorem dX8_cost_4 : decode cX8_cost 4 = .ok (.aload_n 0, 1) := by decide +kernel
theorem dX8_cost_5 : decode cX8_cost 5 = .ok (.getfield 10, 3) := by decide +kernel
theorem dX8_cost_8 : decode cX8_cost 8 = .ok (.invokevirtual 316, 3) := by decide +kernel
theorem dX8_cost_11 : decode cX8_cost 11 = .ok (.ireturn, 1) := by decide +kernel
theorem dX8_better_0 : decode cX8_better 0 = .ok (.aload_n 0, 1) := by decide +kernel
theorem dX8_better_1 : decode cX8_better 1 = .ok (.iload_n 1, 1) := by decide +kernel
theorem dX8_better_2 : decode cX8_better 2 = .ok (.iload_n 2, 1) := by decide +kernel
theorem dX8_better_3 : decode cX8_better 3 = .ok (.invokevirtual 175, 3) := by decide +kernel
theorem dX8_better_6 : decode cX8_better 6 = .ok (.istore_n 3, 1) := by decide +kernel
theorem dX8_better_7 : decode cX8_better 7 = .ok (.aload_n 0, 1) := by decide +kernel
theorem dX8_better_8 : decode cX8_better 8 = .ok (.iload_n 3, 1) := by decide +kernel
theorem dX8_better_9 : decode cX8_better 9 = .ok (.invokevirtual 181, 3) := by decide +kernel
theorem dX8_better_12 : decode cX8_better 12 = .ok (.iconst (-1), 1) := by decide +kernel
theorem dX8_better_13 : decode cX8_better 13 = .ok (.istore 4, 2) := by decide +kernel
theorem dX8_better_15 : decode cX8_better 15 = .ok (.iconst 0, 1) := by decide +kernel
theorem dX8_better_16 : decode cX8_better 16 = .ok (.istore 5, 2) := by decide +kernel
theorem dX8_better_18 : decode cX8_better 18 = .ok (.bipush 42, 2) := by decide +kernel
theorem dX8_better_20 : decode cX8_better 20 = .ok (.istore 6, 2) := by decide +kernel
theorem dX8_better_22 : decode cX8_better 22 = .ok (.iload 6, 2) := by decide +kernel
theorem dX8_better_24 : decode cX8_better 24 = .ok (.sipush 146, 3) := by decide +kernel
theorem dX8_better_27 : decode cX8_better 27 = .ok (.if_icmp .gt 54, 3) := by decide +kernel
theorem dX8_better_30 : decode cX8_better 30 = .ok (.aload_n 0, 1) := by decide +kernel
theorem dX8_better_31 : decode cX8_better 31 = .ok (.getfield 20, 3) := by decide +kernel
theorem dX8_better_34 : decode cX8_better 34 = .ok (.iload 6, 2) := by decide +kernel
theorem dX8_better_36 : decode cX8_better 36 = .ok (.invokestatic 204, 3) := by decide +kernel
theorem dX8_better_39 : decode cX8_better 39 = .ok (.invokevirtual 319, 3) := by decide +kernel
theorem dX8_better_42 : decode cX8_better 42 = .ok (.ifCond .eq 33, 3) := by decide +kernel
theorem dX8_better_45 : decode cX8_better 45 = .ok (.aload_n 0, 1) := by decide +kernel
theorem dX8_better_46 : decode cX8_better 46 = .ok (.iload_n 3, 1) := by decide +kernel
theorem dX8_better_47 : decode cX8_better 47 = .ok (.iload 6, 2) := by decide +kernel
theorem dX8_better_49 : decode cX8_better 49 = .ok (.invokevirtual 322, 3) := by decide +kernel
theorem dX8_better_52 : decode cX8_better 52 = .ok (.istore 7, 2) := by decide +kernel
theorem dX8_better_54 : decode cX8_better 54 = .ok (.iload 4, 2) := by decide +kernel
theorem dX8_better_56 : decode cX8_better 56 = .ok (.iconst (-1), 1) := by decide +kernel
theorem dX8_better_57 : decode cX8_better 57 = .ok (.if_icmp .eq 10, 3) := by decide +kernel
theorem dX8_better_60 : decode cX8_better 60 = .ok (.iload 7, 2) := by decide +kernel
theorem dX8_better_62 : decode cX8_better 62 = .ok (.iload 5, 2) := by decide +kernel
theorem dX8_better_64 : decode cX8_better 64 = .ok (.if_icmp .ge 11, 3) := by decide +kernel
theorem dX8_better_67 : decode cX8_better 67 = .ok (.iload 6, 2) := by decide +kernel
theorem dX8_better_69 : decode cX8_better 69 = .ok (.istore 4, 2) := by decide +kernel
theorem dX8_better_71 : decode cX8_better 71 = .ok (.iload 7, 2) := by decide +kernel
theorem dX8_better_73 : decode cX8_better 73 = .ok (.istore 5, 2) := by decide +kernel
theorem dX8_better_75 : decode cX8_better 75 = .ok (.iinc 6 1, 3) := by decide +kernel
theorem dX8_better_78 : decode cX8_better 78 = .ok (.goto (-56), 3) := by decide +kernel
theorem dX8_better_81 : decode cX8_better 81 = .ok (.iload 4, 2) := by decide +kernel
theorem dX8_better_83 : decode cX8_better 83 = .ok (.iconst (-1), 1) := by decide +kernel
theorem dX8_better_84 : decode cX8_better 84 = .ok (.if_icmp .ne 14, 3) := by decide +kernel
theorem dX8_better_87 : decode cX8_better 87 = .ok (.new 248, 3) := by decide +kernel
theorem dX8_better_90 : decode cX8_better 90 = .ok (.dup, 1) := by decide +kernel
theorem dX8_better_91 : decode cX8_better 91 = .ok (.ldc_w 325, 3) := by decide +kernel
theorem dX8_better_94 : decode cX8_better 94 = .ok (.invokespecial 252, 3) := by decide +kernel
theorem dX8_better_97 : decode cX8_better 97 = .ok (.athrow, 1) := by decide +kernel
theorem dX8_better_98 : decode cX8_better 98 = .ok (.iload 4, 2) := by decide +kernel
theorem dX8_better_100 : decode cX8_better 100 = .ok (.ireturn, 1) := by decide +kernel
theorem dX8_costWith_0 : decode cX8_costWith 0 = .ok (.aload_n 0, 1) := by decide +kernel
theorem dX8_costWith_1 : decode cX8_costWith 1 = .ok (.iload_n 1, 1) := by decide +kernel
theorem dX8_costWith_2 : decode cX8_costWith 2 = .ok (.iload_n 2, 1) := by decide +kernel
theorem dX8_costWith_3 : decode cX8_costWith 3 = .ok (.invokevirtual 175, 3) := by decide +kernel
theorem dX8_costWith_6 : decode cX8_costWith 6 = .ok (.istore 4, 2) := by decide +kernel
theorem dX8_costWith_8 : decode cX8_costWith 8 = .ok (.aload_n 0, 1) := by decide +kernel
theorem dX8_costWith_9 : decode cX8_costWith 9 = .ok (.iload_n 3, 1) := by decide +kernel
theorem dX8_costWith_10 : decode cX8_costWith 10 = .ok (.invokevirtual 178, 3) := by decide +kernel
theorem dX8_costWith_13 : decode cX8_costWith 13 = .ok (.aload_n 0, 1) := by decide +kernel
theorem dX8_costWith_14 : decode cX8_costWith 14 = .ok (.iload 4, 2) := by decide +kernel
theorem dX8_costWith_16 : decode cX8_costWith 16 = .ok (.invokevirtual 181, 3) := by decide +kernel
theorem dX8_costWith_19 : decode cX8_costWith 19 = .ok (.aload_n 0, 1) := by decide +kernel
theorem dX8_costWith_20 : decode cX8_costWith 20 = .ok (.iload 4, 2) := by decide +kernel
theorem dX8_costWith_22 : decode cX8_costWith 22 = .ok (.iload_n 3, 1) := by decide +kernel
theorem dX8_costWith_23 : decode cX8_costWith 23 = .ok (.invokevirtual 322, 3) := by decide +kernel
theorem dX8_costWith_26 : decode cX8_costWith 26 = .ok (.ireturn, 1) := by decide +kernel
theorem dX8_search_0 : decode cX8_search 0 = .ok (.aload_n 0, 1) := by decide +kernel
theorem dX8_search_1 : decode cX8_search 1 = .ok (.invokevirtual 127, 3) := by decide +kernel
theorem dX8_search_4 : decode cX8_search 4 = .ok (.aload_n 0, 1) := by decide +kernel
theorem dX8_search_5 : decode cX8_search 5 = .ok (.getfield 20, 3) := by decide +kernel
theorem dX8_search_8 : decode cX8_search 8 = .ok (.invokevirtual 133, 3) := by decide +kernel
theorem dX8_search_11 : decode cX8_search 11 = .ok (.iconst 1, 1) := by decide +kernel
theorem dX8_search_12 : decode cX8_search 12 = .ok (.if_icmp .eq 14, 3) := by decide +kernel
theorem dX8_search_15 : decode cX8_search 15 = .ok (.new 89, 3) := by decide +kernel
theorem dX8_search_18 : decode cX8_search 18 = .ok (.dup, 1) := by decide +kernel
theorem dX8_search_19 : decode cX8_search 19 = .ok (.ldc_w 327, 3) := by decide +kernel
theorem dX8_search_22 : decode cX8_search 22 = .ok (.invokespecial 93, 3) := by decide +kernel
theorem dX8_search_25 : decode cX8_search 25 = .ok (.athrow, 1) := by decide +kernel
theorem dX8_search_26 : decode cX8_search 26 = .ok (.aload_n 0, 1) := by decide +kernel
theorem dX8_search_27 : decode cX8_search 27 = .ok (.getfield 39, 3) := by decide +kernel
theorem dX8_search_30 : decode cX8_search 30 = .ok (.aload_n 0, 1) := by decide +kernel
theorem dX8_search_31 : decode cX8_search 31 = .ok (.getfield 20, 3) := by decide +kernel
theorem dX8_search_34 : decode cX8_search 34 = .ok (.invokevirtual 329, 3) := by decide +kernel
theorem dX8_search_37 : decode cX8_search 37 = .ok (.istore_n 1, 1) := by decide +kernel
theorem dX8_search_38 : decode cX8_search 38 = .ok (.iload_n 1, 1) := by decide +kernel
theorem dX8_search_39 : decode cX8_search 39 = .ok (.iconst (-1), 1) := by decide +kernel
theorem dX8_search_40 : decode cX8_search 40 = .ok (.if_icmp .ne 14, 3) := by decide +kernel
theorem dX8_search_43 : decode cX8_search 43 = .ok (.new 333, 3) := by decide +kernel
theorem dX8_search_46 : decode cX8_search 46 = .ok (.dup, 1) := by decide +kernel
theorem dX8_search_47 : decode cX8_search 47 = .ok (.ldc_w 335, 3) := by decide +kernel
theorem dX8_search_50 : decode cX8_search 50 = .ok (.invokespecial 337, 3) := by decide +kernel
theorem dX8_search_53 : decode cX8_search 53 = .ok (.athrow, 1) := by decide +kernel
theorem dX8_search_54 : decode cX8_search 54 = .ok (.aload_n 0, 1) := by decide +kernel
theorem dX8_search_55 : decode cX8_search 55 = .ok (.getfield 46, 3) := by decide +kernel
theorem dX8_search_58 : decode cX8_search 58 = .ok (.aload_n 0, 1) := by decide +kernel
theorem dX8_search_59 : decode cX8_search 59 = .ok (.getfield 39, 3) := by decide +kernel
theorem dX8_search_62 : decode cX8_search 62 = .ok (.invokevirtual 338, 3) := by decide +kernel
theorem dX8_search_65 : decode cX8_search 65 = .ok (.invokevirtual 118, 3) := by decide +kernel
theorem dX8_search_68 : decode cX8_search 68 = .ok (.iload_n 1, 1) := by decide +kernel
theorem dX8_search_69 : decode cX8_search 69 = .ok (.ireturn, 1) := by decide +kernel
theorem dX8_suggested_0 : decode cX8_suggested 0 = .ok (.aload_n 0, 1) := by decide +kernel
theorem dX8_suggested_1 : decode cX8_suggested 1 = .ok (.invokevirtual 339, 3) := by decide +kernel
theorem dX8_suggested_4 : decode cX8_suggested 4 = .ok (.iload_n 1, 1) := by decide +kernel
theorem dX8_suggested_5 : decode cX8_suggested 5 = .ok (.ifCond .lt 14, 3) := by decide +kernel
theorem dX8_suggested_8 : decode cX8_suggested 8 = .ok (.iload_n 1, 1) := by decide +kernel
theorem dX8_suggested_9 : decode cX8_suggested 9 = .ok (.aload_n 0, 1) := by decide +kernel
theorem dX8_suggested_10 : decode cX8_suggested 10 = .ok (.getfield 46, 3) := by decide +kernel
theorem dX8_suggested_13 : decode cX8_suggested 13 = .ok (.invokevirtual 126, 3) := by decide +kernel
theorem dX8_suggested_16 : decode cX8_suggested 16 = .ok (.if_icmp .lt 14, 3) := by decide +kernel
theorem dX8_suggested_19 : decode cX8_suggested 19 = .ok (.new 156, 3) := by decide +kernel
theorem dX8_suggested_22 : decode cX8_suggested 22 = .ok (.dup, 1) := by decide +kernel
theorem dX8_suggested_23 : decode cX8_suggested 23 = .ok (.ldc_w 342, 3) := by decide +kernel
theorem dX8_suggested_26 : decode cX8_suggested 26 = .ok (.invokespecial 160, 3) := by decide +kernel
theorem dX8_suggested_29 : decode cX8_suggested 29 = .ok (.athrow, 1) := by decide +kernel
theorem dX8_suggested_30 : decode cX8_suggested 30 = .ok (.aload_n 0, 1) := by decide +kernel
theorem dX8_suggested_31 : decode cX8_suggested 31 = .ok (.getfield 46, 3) := by decide +kernel
theorem dX8_suggested_34 : decode cX8_suggested 34 = .ok (.iload_n 1, 1) := by decide +kernel
theorem dX8_suggested_35 : decode cX8_suggested 35 = .ok (.invokevirtual 186, 3) := by decide +kernel
theorem dX8_suggested_38 : decode cX8_suggested 38 = .ok (.ireturn, 1) := by decide +kernel
theorem dX8_adopt_0 : decode cX8_adopt 0 = .ok (.aload_n 0, 1) := by decide +kernel
theorem dX8_adopt_1 : decode cX8_adopt 1 = .ok (.invokevirtual 339, 3) := by decide +kernel
theorem dX8_adopt_4 : decode cX8_adopt 4 = .ok (.aload_n 0, 1) := by decide +kernel
theorem dX8_adopt_5 : decode cX8_adopt 5 = .ok (.invokevirtual 127, 3) := by decide +kernel
theorem dX8_adopt_8 : decode cX8_adopt 8 = .ok (.aload_n 0, 1) := by decide +kernel
theorem dX8_adopt_9 : decode cX8_adopt 9 = .ok (.getfield 20, 3) := by decide +kernel
theorem dX8_adopt_12 : decode cX8_adopt 12 = .ok (.invokevirtual 133, 3) := by decide +kernel
theorem dX8_adopt_15 : decode cX8_adopt 15 = .ok (.iconst 1, 1) := by decide +kernel
theorem dX8_adopt_16 : decode cX8_adopt 16 = .ok (.if_icmp .ne 23, 3) := by decide +kernel
theorem dX8_adopt_19 : decode cX8_adopt 19 = .ok (.aload_n 0, 1) := by decide +kernel
theorem dX8_adopt_20 : decode cX8_adopt 20 = .ok (.getfield 46, 3) := by decide +kernel
theorem dX8_adopt_23 : decode cX8_adopt 23 = .ok (.invokevirtual 126, 3) := by decide +kernel
theorem dX8_adopt_26 : decode cX8_adopt 26 = .ok (.aload_n 0, 1) := by decide +kernel
theorem dX8_adopt_27 : decode cX8_adopt 27 = .ok (.getfield 20, 3) := by decide +kernel
theorem dX8_adopt_30 : decode cX8_adopt 30 = .ok (.getfield 111, 3) := by decide +kernel
theorem dX8_adopt_33 : decode cX8_adopt 33 = .ok (.invokevirtual 126, 3) := by decide +kernel
theorem dX8_adopt_36 : decode cX8_adopt 36 = .ok (.if_icmp .eq 14, 3) := by decide +kernel
theorem dX8_adopt_39 : decode cX8_adopt 39 = .ok (.new 333, 3) := by decide +kernel
theorem dX8_adopt_42 : decode cX8_adopt 42 = .ok (.dup, 1) := by decide +kernel
theorem dX8_adopt_43 : decode cX8_adopt 43 = .ok (.ldc_w 344, 3) := by decide +kernel
theorem dX8_adopt_46 : decode cX8_adopt 46 = .ok (.invokespecial 337, 3) := by decide +kernel
theorem dX8_adopt_49 : decode cX8_adopt 49 = .ok (.athrow, 1) := by decide +kernel
theorem dX8_adopt_50 : decode cX8_adopt 50 = .ok (.aload_n 0, 1) := by decide +kernel
theorem dX8_adopt_51 : decode cX8_adopt 51 = .ok (.getfield 32, 3) := by decide +kernel
theorem dX8_adopt_54 : decode cX8_adopt 54 = .ok (.aload_n 0, 1) := by decide +kernel
theorem dX8_adopt_55 : decode cX8_adopt 55 = .ok (.getfield 20, 3) := by decide +kernel
theorem dX8_adopt_58 : decode cX8_adopt 58 = .ok (.invokevirtual 107, 3) := by decide +kernel
theorem dX8_adopt_61 : decode cX8_adopt 61 = .ok (.aload_n 0, 1) := by decide +kernel
theorem dX8_adopt_62 : decode cX8_adopt 62 = .ok (.getfield 20, 3) := by decide +kernel
theorem dX8_adopt_65 : decode cX8_adopt 65 = .ok (.getfield 122, 3) := by decide +kernel
theorem dX8_adopt_68 : decode cX8_adopt 68 = .ok (.aload_n 0, 1) := by decide +kernel
theorem dX8_adopt_69 : decode cX8_adopt 69 = .ok (.getfield 46, 3) := by decide +kernel
theorem dX8_adopt_72 : decode cX8_adopt 72 = .ok (.invokevirtual 118, 3) := by decide +kernel
theorem dX8_adopt_75 : decode cX8_adopt 75 = .ok (.aload_n 0, 1) := by decide +kernel
theorem dX8_adopt_76 : decode cX8_adopt 76 = .ok (.getfield 10, 3) := by decide +kernel
theorem dX8_adopt_79 : decode cX8_adopt 79 = .ok (.iconst (-1), 1) := by decide +kernel
theorem dX8_adopt_80 : decode cX8_adopt 80 = .ok (.iconst (-1), 1) := by decide +kernel
theorem dX8_adopt_81 : decode cX8_adopt 81 = .ok (.invokevirtual 138, 3) := by decide +kernel
theorem dX8_adopt_84 : decode cX8_adopt 84 = .ok (.ireturn, 1) := by decide +kernel
theorem dX8_count_0 : decode cX8_count 0 = .ok (.iload_n 1, 1) := by decide +kernel
theorem dX8_count_1 : decode cX8_count 1 = .ok (.tableswitch 164 0 10 #[59, 70, 81, 89, 105, 114, 123, 132, 140, 148, 156], 59) := by decide +kernel
theorem dX8_count_60 : decode cX8_count 60 = .ok (.aload_n 0, 1) := by decide +kernel
theorem dX8_count_61 : decode cX8_count 61 = .ok (.getfield 20, 3) := by decide +kernel
theorem dX8_count_64 : decode cX8_count 64 = .ok (.getfield 111, 3) := by decide +kernel
theorem dX8_count_67 : decode cX8_count 67 = .ok (.invokevirtual 126, 3) := by decide +kernel
theorem dX8_count_70 : decode cX8_count 70 = .ok (.ireturn, 1) := by decide +kernel
theorem dX8_count_71 : decode cX8_count 71 = .ok (.aload_n 0, 1) := by decide +kernel
theorem dX8_count_72 : decode cX8_count 72 = .ok (.getfield 20, 3) := by decide +kernel
theorem dX8_count_75 : decode cX8_count 75 = .ok (.getfield 122, 3) := by decide +kernel
theorem dX8_count_78 : decode cX8_count 78 = .ok (.invokevirtual 126, 3) := by decide +kernel
theorem dX8_count_81 : decode cX8_count 81 = .ok (.ireturn, 1) := by decide +kernel
theorem dX8_count_82 : decode cX8_count 82 = .ok (.aload_n 0, 1) := by decide +kernel
theorem dX8_count_83 : decode cX8_count 83 = .ok (.getfield 20, 3) := by decide +kernel
theorem dX8_count_86 : decode cX8_count 86 = .ok (.invokevirtual 133, 3) := by decide +kernel
theorem dX8_count_89 : decode cX8_count 89 = .ok (.ireturn, 1) := by decide +kernel
theorem dX8_count_90 : decode cX8_count 90 = .ok (.aload_n 0, 1) := by decide +kernel
theorem dX8_count_91 : decode cX8_count 91 = .ok (.getfield 20, 3) := by decide +kernel
theorem dX8_count_94 : decode cX8_count 94 = .ok (.invokevirtual 148, 3) := by decide +kernel
theorem dX8_count_97 : decode cX8_count 97 = .ok (.ifCond .eq 7, 3) := by decide +kernel
theorem dX8_count_100 : decode cX8_count 100 = .ok (.iconst 1, 1) := by decide +kernel
theorem dX8_count_101 : decode cX8_count 101 = .ok (.goto 4, 3) := by decide +kernel
theorem dX8_count_104 : decode cX8_count 104 = .ok (.iconst 0, 1) := by decide +kernel
theorem dX8_count_105 : decode cX8_count 105 = .ok (.ireturn, 1) := by decide +kernel
theorem dX8_count_106 : decode cX8_count 106 = .ok (.aload_n 0, 1) := by decide +kernel
theorem dX8_count_107 : decode cX8_count 107 = .ok (.getfield 20, 3) := by decide +kernel
theorem dX8_count_110 : decode cX8_count 110 = .ok (.iconst 0, 1) := by decide +kernel
theorem dX8_count_111 : decode cX8_count 111 = .ok (.invokevirtual 167, 3) := by decide +kernel
theorem dX8_count_114 : decode cX8_count 114 = .ok (.ireturn, 1) := by decide +kernel
theorem dX8_count_115 : decode cX8_count 115 = .ok (.aload_n 0, 1) := by decide +kernel
theorem dX8_count_116 : decode cX8_count 116 = .ok (.getfield 20, 3) := by decide +kernel
theorem dX8_count_119 : decode cX8_count 119 = .ok (.iconst 1, 1) := by decide +kernel
theorem dX8_count_120 : decode cX8_count 120 = .ok (.invokevirtual 167, 3) := by decide +kernel
theorem dX8_count_123 : decode cX8_count 123 = .ok (.ireturn, 1) := by decide +kernel
theorem dX8_count_124 : decode cX8_count 124 = .ok (.aload_n 0, 1) := by decide +kernel
theorem dX8_count_125 : decode cX8_count 125 = .ok (.getfield 20, 3) := by decide +kernel
theorem dX8_count_128 : decode cX8_count 128 = .ok (.iconst 2, 1) := by decide +kernel
theorem dX8_count_129 : decode cX8_count 129 = .ok (.invokevirtual 167, 3) := by decide +kernel
theorem dX8_count_132 : decode cX8_count 132 = .ok (.ireturn, 1) := by decide +kernel
theorem dX8_count_133 : decode cX8_count 133 = .ok (.aload_n 0, 1) := by decide +kernel
theorem dX8_count_134 : decode cX8_count 134 = .ok (.getfield 20, 3) := by decide +kernel
theorem dX8_count_137 : decode cX8_count 137 = .ok (.invokevirtual 346, 3) := by decide +kernel
theorem dX8_count_140 : decode cX8_count 140 = .ok (.ireturn, 1) := by decide +kernel
theorem dX8_count_141 : decode cX8_count 141 = .ok (.aload_n 0, 1) := by decide +kernel
theorem dX8_count_142 : decode cX8_count 142 = .ok (.getfield 61, 3) := by decide +kernel
theorem dX8_count_145 : decode cX8_count 145 = .ok (.invokevirtual 85, 3) := by decide +kernel
theorem dX8_count_148 : decode cX8_count 148 = .ok (.ireturn, 1) := by decide +kernel
theorem dX8_count_149 : decode cX8_count 149 = .ok (.aload_n 0, 1) := by decide +kernel
theorem dX8_count_150 : decode cX8_count 150 = .ok (.getfield 32, 3) := by decide +kernel
theorem dX8_count_153 : decode cX8_count 153 = .ok (.invokevirtual 349, 3) := by decide +kernel
theorem dX8_count_156 : decode cX8_count 156 = .ok (.ireturn, 1) := by decide +kernel
theorem dX8_count_157 : decode cX8_count 157 = .ok (.aload_n 0, 1) := by decide +kernel
theorem dX8_count_158 : decode cX8_count 158 = .ok (.getfield 46, 3) := by decide +kernel
theorem dX8_count_161 : decode cX8_count 161 = .ok (.invokevirtual 126, 3) := by decide +kernel
theorem dX8_count_164 : decode cX8_count 164 = .ok (.ireturn, 1) := by decide +kernel
theorem dX8_count_165 : decode cX8_count 165 = .ok (.new 78, 3) := by decide +kernel
theorem dX8_count_168 : decode cX8_count 168 = .ok (.dup, 1) := by decide +kernel
theorem dX8_count_169 : decode cX8_count 169 = .ok (.ldc_w 350, 3) := by decide +kernel
theorem dX8_count_172 : decode cX8_count 172 = .ok (.invokespecial 82, 3) := by decide +kernel
theorem dX8_count_175 : decode cX8_count 175 = .ok (.athrow, 1) := by decide +kernel
theorem dX8_undo_0 : decode cX8_undo 0 = .ok (.aload_n 0, 1) := by decide +kernel
theorem dX8_undo_1 : decode cX8_undo 1 = .ok (.getfield 32, 3) := by decide +kernel
theorem dX8_undo_4 : decode cX8_undo 4 = .ok (.invokevirtual 349, 3) := by decide +kernel
theorem dX8_undo_7 : decode cX8_undo 7 = .ok (.ifCond .ne 14, 3) := by decide +kernel
theorem dX8_undo_10 : decode cX8_undo 10 = .ok (.new 89, 3) := by decide +kernel
theorem dX8_undo_13 : decode cX8_undo 13 = .ok (.dup, 1) := by decide +kernel
theorem dX8_undo_14 : decode cX8_undo 14 = .ok (.ldc_w 352, 3) := by decide +kernel
theorem dX8_undo_17 : decode cX8_undo 17 = .ok (.invokespecial 93, 3) := by decide +kernel
theorem dX8_undo_20 : decode cX8_undo 20 = .ok (.athrow, 1) := by decide +kernel
theorem dX8_undo_21 : decode cX8_undo 21 = .ok (.aload_n 0, 1) := by decide +kernel
theorem dX8_undo_22 : decode cX8_undo 22 = .ok (.getfield 32, 3) := by decide +kernel
theorem dX8_undo_25 : decode cX8_undo 25 = .ok (.aload_n 0, 1) := by decide +kernel
theorem dX8_undo_26 : decode cX8_undo 26 = .ok (.getfield 20, 3) := by decide +kernel
theorem dX8_undo_29 : decode cX8_undo 29 = .ok (.invokevirtual 354, 3) := by decide +kernel
theorem dX8_undo_32 : decode cX8_undo 32 = .ok (.aload_n 0, 1) := by decide +kernel
theorem dX8_undo_33 : decode cX8_undo 33 = .ok (.getfield 32, 3) := by decide +kernel
theorem dX8_undo_36 : decode cX8_undo 36 = .ok (.invokevirtual 349, 3) := by decide +kernel
theorem dX8_undo_39 : decode cX8_undo 39 = .ok (.ireturn, 1) := by decide +kernel
theorem dX8_save_0 : decode cX8_save 0 = .ok (.aload_n 0, 1) := by decide +kernel
theorem dX8_save_1 : decode cX8_save 1 = .ok (.getfield 26, 3) := by decide +kernel
theorem dX8_save_4 : decode cX8_save 4 = .ok (.aload_n 0, 1) := by decide +kernel
theorem dX8_save_5 : decode cX8_save 5 = .ok (.getfield 20, 3) := by decide +kernel
theorem dX8_save_8 : decode cX8_save 8 = .ok (.invokevirtual 357, 3) := by decide +kernel
theorem dX8_save_11 : decode cX8_save 11 = .ok (.aload_n 0, 1) := by decide +kernel
theorem dX8_save_12 : decode cX8_save 12 = .ok (.iconst 1, 1) := by decide +kernel
theorem dX8_save_13 : decode cX8_save 13 = .ok (.putfield 70, 3) := by decide +kernel
theorem dX8_save_16 : decode cX8_save 16 = .ok (.aload_n 0, 1) := by decide +kernel
theorem dX8_save_17 : decode cX8_save 17 = .ok (.getfield 20, 3) := by decide +kernel
theorem dX8_save_20 : decode cX8_save 20 = .ok (.getfield 111, 3) := by decide +kernel
theorem dX8_save_23 : decode cX8_save 23 = .ok (.invokevirtual 126, 3) := by decide +kernel
theorem dX8_save_26 : decode cX8_save 26 = .ok (.ireturn, 1) := by decide +kernel
theorem dX8_restore_0 : decode cX8_restore 0 = .ok (.aload_n 0, 1) := by decide +kernel
theorem dX8_restore_1 : decode cX8_restore 1 = .ok (.getfield 70, 3) := by decide +kernel
theorem dX8_restore_4 : decode cX8_restore 4 = .ok (.ifCond .ne 14, 3) := by decide +kernel
theorem dX8_restore_7 : decode cX8_restore 7 = .ok (.new 89, 3) := by decide +kernel
theorem dX8_restore_10 : decode cX8_restore 10 = .ok (.dup, 1) := by decide +kernel
theorem dX8_restore_11 : decode cX8_restore 11 = .ok (.ldc_w 359, 3) := by decide +kernel
theorem dX8_restore_14 : decode cX8_restore 14 = .ok (.invokespecial 93, 3) := by decide +kernel
theorem dX8_restore_17 : decode cX8_restore 17 = .ok (.athrow, 1) := by decide +kernel
theorem dX8_restore_18 : decode cX8_restore 18 = .ok (.aload_n 0, 1) := by decide +kernel
theorem dX8_restore_19 : decode cX8_restore 19 = .ok (.getfield 32, 3) := by decide +kernel
theorem dX8_restore_22 : decode cX8_restore 22 = .ok (.aload_n 0, 1) := by decide +kernel
theorem dX8_restore_23 : decode cX8_restore 23 = .ok (.getfield 20, 3) := by decide +kernel
theorem dX8_restore_26 : decode cX8_restore 26 = .ok (.invokevirtual 107, 3) := by decide +kernel
theorem dX8_restore_29 : decode cX8_restore 29 = .ok (.aload_n 0, 1) := by decide +kernel
theorem dX8_restore_30 : decode cX8_restore 30 = .ok (.getfield 20, 3) := by decide +kernel
theorem dX8_restore_33 : decode cX8_restore 33 = .ok (.aload_n 0, 1) := by decide +kernel
theorem dX8_restore_34 : decode cX8_restore 34 = .ok (.getfield 26, 3) := by decide +kernel
theorem dX8_restore_37 : decode cX8_restore 37 = .ok (.invokevirtual 357, 3) := by decide +kernel
theorem dX8_restore_40 : decode cX8_restore 40 = .ok (.aload_n 0, 1) := by decide +kernel
theorem dX8_restore_41 : decode cX8_restore 41 = .ok (.getfield 20, 3) := by decide +kernel
theorem dX8_restore_44 : decode cX8_restore 44 = .ok (.getfield 111, 3) := by decide +kernel
theorem dX8_restore_47 : decode cX8_restore 47 = .ok (.invokevirtual 126, 3) := by decide +kernel
theorem dX8_restore_50 : decode cX8_restore 50 = .ok (.ireturn, 1) := by decide +kernel
theorem dX8_requireCantus_0 : decode cX8_requireCantus 0 = .ok (.aload_n 0, 1) := by decide +kernel
theorem dX8_requireCantus_1 : decode cX8_requireCantus 1 = .ok (.getfield 20, 3) := by decide +kernel
theorem dX8_requireCantus_4 : decode cX8_requireCantus 4 = .ok (.getfield 111, 3) := by decide +kernel
theorem dX8_requireCantus_7 : decode cX8_requireCantus 7 = .ok (.invokevirtual 126, 3) := by decide +kernel
theorem dX8_requireCantus_10 : decode cX8_requireCantus 10 = .ok (.ifCond .ne 14, 3) := by decide +kernel
theorem dX8_requireCantus_13 : decode cX8_requireCantus 13 = .ok (.new 89, 3) := by decide +kernel
theorem dX8_requireCantus_16 : decode cX8_requireCantus 16 = .ok (.dup, 1) := by decide +kernel
theorem dX8_requireCantus_17 : decode cX8_requireCantus 17 = .ok (.ldc_w 361, 3) := by decide +kernel
theorem dX8_requireCantus_20 : decode cX8_requireCantus 20 = .ok (.invokespecial 93, 3) := by decide +kernel
theorem dX8_requireCantus_23 : decode cX8_requireCantus 23 = .ok (.athrow, 1) := by decide +kernel
theorem dX8_requireCantus_24 : decode cX8_requireCantus 24 = .ok (.return_, 1) := by decide +kernel
theorem dX8_requireCounterpoint_0 : decode cX8_requireCounterpoint 0 = .ok (.aload_n 0, 1) := by decide +kernel
theorem dX8_requireCounterpoint_1 : decode cX8_requireCounterpoint 1 = .ok (.getfield 20, 3) := by decide +kernel
theorem dX8_requireCounterpoint_4 : decode cX8_requireCounterpoint 4 = .ok (.getfield 122, 3) := by decide +kernel
theorem dX8_requireCounterpoint_7 : decode cX8_requireCounterpoint 7 = .ok (.invokevirtual 126, 3) := by decide +kernel
theorem dX8_requireCounterpoint_10 : decode cX8_requireCounterpoint 10 = .ok (.ifCond .ne 14, 3) := by decide +kernel
theorem dX8_requireCounterpoint_13 : decode cX8_requireCounterpoint 13 = .ok (.new 89, 3) := by decide +kernel
theorem dX8_requireCounterpoint_16 : decode cX8_requireCounterpoint 16 = .ok (.dup, 1) := by decide +kernel
theorem dX8_requireCounterpoint_17 : decode cX8_requireCounterpoint 17 = .ok (.ldc_w 363, 3) := by decide +kernel
theorem dX8_requireCounterpoint_20 : decode cX8_requireCounterpoint 20 = .ok (.invokespecial 93, 3) := by decide +kernel
theorem dX8_requireCounterpoint_23 : decode cX8_requireCounterpoint 23 = .ok (.athrow, 1) := by decide +kernel
theorem dX8_requireCounterpoint_24 : decode cX8_requireCounterpoint 24 = .ok (.return_, 1) := by decide +kernel
theorem dX8_requireSuggestion_0 : decode cX8_requireSuggestion 0 = .ok (.aload_n 0, 1) := by decide +kernel
theorem dX8_requireSuggestion_1 : decode cX8_requireSuggestion 1 = .ok (.getfield 46, 3) := by decide +kernel
theorem dX8_requireSuggestion_4 : decode cX8_requireSuggestion 4 = .ok (.invokevirtual 126, 3) := by decide +kernel
theorem dX8_requireSuggestion_7 : decode cX8_requireSuggestion 7 = .ok (.ifCond .ne 14, 3) := by decide +kernel
theorem dX8_requireSuggestion_10 : decode cX8_requireSuggestion 10 = .ok (.new 89, 3) := by decide +kernel
theorem dX8_requireSuggestion_13 : decode cX8_requireSuggestion 13 = .ok (.dup, 1) := by decide +kernel
theorem dX8_requireSuggestion_14 : decode cX8_requireSuggestion 14 = .ok (.ldc_w 365, 3) := by decide +kernel
theorem dX8_requireSuggestion_17 : decode cX8_requireSuggestion 17 = .ok (.invokespecial 93, 3) := by decide +kernel
theorem dX8_requireSuggestion_20 : decode cX8_requireSuggestion 20 = .ok (.athrow, 1) := by decide +kernel
theorem dX8_requireSuggestion_21 : decode cX8_requireSuggestion 21 = .ok (.return_, 1) := by decide +kernel
theorem dX8_requireBar_0 : decode cX8_requireBar 0 = .ok (.iload_n 1, 1) := by decide +kernel
theorem dX8_requireBar_1 : decode cX8_requireBar 1 = .ok (.ifCond .lt 17, 3) := by decide +kernel
theorem dX8_requireBar_4 : decode cX8_requireBar 4 = .ok (.iload_n 1, 1) := by decide +kernel
theorem dX8_requireBar_5 : decode cX8_requireBar 5 = .ok (.aload_n 0, 1) := by decide +kernel
theorem dX8_requireBar_6 : decode cX8_requireBar 6 = .ok (.getfield 20, 3) := by decide +kernel
theorem dX8_requireBar_9 : decode cX8_requireBar 9 = .ok (.getfield 111, 3) := by decide +kernel
theorem dX8_requireBar_12 : decode cX8_requireBar 12 = .ok (.invokevirtual 126, 3) := by decide +kernel
theorem dX8_requireBar_15 : decode cX8_requireBar 15 = .ok (.if_icmp .lt 14, 3) := by decide +kernel
theorem dX8_requireBar_18 : decode cX8_requireBar 18 = .ok (.new 156, 3) := by decide +kernel
theorem dX8_requireBar_21 : decode cX8_requireBar 21 = .ok (.dup, 1) := by decide +kernel
theorem dX8_requireBar_22 : decode cX8_requireBar 22 = .ok (.ldc_w 367, 3) := by decide +kernel
theorem dX8_requireBar_25 : decode cX8_requireBar 25 = .ok (.invokespecial 160, 3) := by decide +kernel
theorem dX8_requireBar_28 : decode cX8_requireBar 28 = .ok (.athrow, 1) := by decide +kernel
theorem dX8_requireBar_29 : decode cX8_requireBar 29 = .ok (.return_, 1) := by decide +kernel
theorem dX8_requirePlace_0 : decode cX8_requirePlace 0 = .ok (.aload_n 0, 1) := by decide +kernel
theorem dX8_requirePlace_1 : decode cX8_requirePlace 1 = .ok (.invokevirtual 240, 3) := by decide +kernel
theorem dX8_requirePlace_4 : decode cX8_requirePlace 4 = .ok (.aload_n 0, 1) := by decide +kernel
theorem dX8_requirePlace_5 : decode cX8_requirePlace 5 = .ok (.getfield 20, 3) := by decide +kernel
theorem dX8_requirePlace_8 : decode cX8_requirePlace 8 = .ok (.iload_n 1, 1) := by decide +kernel
theorem dX8_requirePlace_9 : decode cX8_requirePlace 9 = .ok (.iload_n 2, 1) := by decide +kernel
theorem dX8_requirePlace_10 : decode cX8_requirePlace 10 = .ok (.invokevirtual 369, 3) := by decide +kernel
theorem dX8_requirePlace_13 : decode cX8_requirePlace 13 = .ok (.istore_n 3, 1) := by decide +kernel
theorem dX8_requirePlace_14 : decode cX8_requirePlace 14 = .ok (.iload_n 3, 1) := by decide +kernel
theorem dX8_requirePlace_15 : decode cX8_requirePlace 15 = .ok (.iconst (-1), 1) := by decide +kernel
theorem dX8_requirePlace_16 : decode cX8_requirePlace 16 = .ok (.if_icmp .ne 14, 3) := by decide +kernel
theorem dX8_requirePlace_19 : decode cX8_requirePlace 19 = .ok (.new 156, 3) := by decide +kernel
theorem dX8_requirePlace_22 : decode cX8_requirePlace 22 = .ok (.dup, 1) := by decide +kernel
theorem dX8_requirePlace_23 : decode cX8_requirePlace 23 = .ok (.ldc_w 372, 3) := by decide +kernel
theorem dX8_requirePlace_26 : decode cX8_requirePlace 26 = .ok (.invokespecial 160, 3) := by decide +kernel
theorem dX8_requirePlace_29 : decode cX8_requirePlace 29 = .ok (.athrow, 1) := by decide +kernel
theorem dX8_requirePlace_30 : decode cX8_requirePlace 30 = .ok (.iload_n 3, 1) := by decide +kernel
theorem dX8_requirePlace_31 : decode cX8_requirePlace 31 = .ok (.ireturn, 1) := by decide +kernel
theorem dX8_requireNote_0 : decode cX8_requireNote 0 = .ok (.aload_n 0, 1) := by decide +kernel
theorem dX8_requireNote_1 : decode cX8_requireNote 1 = .ok (.getfield 20, 3) := by decide +kernel
theorem dX8_requireNote_4 : decode cX8_requireNote 4 = .ok (.getfield 122, 3) := by decide +kernel
theorem dX8_requireNote_7 : decode cX8_requireNote 7 = .ok (.iload_n 1, 1) := by decide +kernel
theorem dX8_requireNote_8 : decode cX8_requireNote 8 = .ok (.invokevirtual 186, 3) := by decide +kernel
theorem dX8_requireNote_11 : decode cX8_requireNote 11 = .ok (.iconst (-1), 1) := by decide +kernel
theorem dX8_requireNote_12 : decode cX8_requireNote 12 = .ok (.if_icmp .ne 13, 3) := by decide +kernel
theorem dX8_requireNote_15 : decode cX8_requireNote 15 = .ok (.new 248, 3) := by decide +kernel
theorem dX8_requireNote_18 : decode cX8_requireNote 18 = .ok (.dup, 1) := by decide +kernel
theorem dX8_requireNote_19 : decode cX8_requireNote 19 = .ok (.ldc 250, 2) := by decide +kernel
theorem dX8_requireNote_21 : decode cX8_requireNote 21 = .ok (.invokespecial 252, 3) := by decide +kernel
theorem dX8_requireNote_24 : decode cX8_requireNote 24 = .ok (.athrow, 1) := by decide +kernel
theorem dX8_requireNote_25 : decode cX8_requireNote 25 = .ok (.return_, 1) := by decide +kernel
theorem dX8_requireCode_0 : decode cX8_requireCode 0 = .ok (.iload_n 1, 1) := by decide +kernel
theorem dX8_requireCode_1 : decode cX8_requireCode 1 = .ok (.invokestatic 192, 3) := by decide +kernel
theorem dX8_requireCode_4 : decode cX8_requireCode 4 = .ok (.ifCond .ne 13, 3) := by decide +kernel
theorem dX8_requireCode_7 : decode cX8_requireCode 7 = .ok (.new 78, 3) := by decide +kernel
theorem dX8_requireCode_10 : decode cX8_requireCode 10 = .ok (.dup, 1) := by decide +kernel
theorem dX8_requireCode_11 : decode cX8_requireCode 11 = .ok (.ldc 196, 2) := by decide +kernel
theorem dX8_requireCode_13 : decode cX8_requireCode 13 = .ok (.invokespecial 82, 3) := by decide +kernel
theorem dX8_requireCode_16 : decode cX8_requireCode 16 = .ok (.athrow, 1) := by decide +kernel
theorem dX8_requireCode_17 : decode cX8_requireCode 17 = .ok (.return_, 1) := by decide +kernel
theorem dX8_requireRule_0 : decode cX8_requireRule 0 = .ok (.iload_n 1, 1) := by decide +kernel
theorem dX8_requireRule_1 : decode cX8_requireRule 1 = .ok (.iconst 1, 1) := by decide +kernel
theorem dX8_requireRule_2 : decode cX8_requireRule 2 = .ok (.if_icmp .lt 9, 3) := by decide +kernel
theorem dX8_requireRule_5 : decode cX8_requireRule 5 = .ok (.iload_n 1, 1) := by decide +kernel
theorem dX8_requireRule_6 : decode cX8_requireRule 6 = .ok (.bipush 16, 2) := by decide +kernel
theorem dX8_requireRule_8 : decode cX8_requireRule 8 = .ok (.if_icmp .le 14, 3) := by decide +kernel
theorem dX8_requireRule_11 : decode cX8_requireRule 11 = .ok (.new 156, 3) := by decide +kernel
theorem dX8_requireRule_14 : decode cX8_requireRule 14 = .ok (.dup, 1) := by decide +kernel
theorem dX8_requireRule_15 : decode cX8_requireRule 15 = .ok (.ldc_w 374, 3) := by decide +kernel
theorem dX8_requireRule_18 : decode cX8_requireRule 18 = .ok (.invokespecial 160, 3) := by decide +kernel
theorem dX8_requireRule_21 : decode cX8_requireRule 21 = .ok (.athrow, 1) := by decide +kernel
theorem dX8_requireRule_22 : decode cX8_requireRule 22 = .ok (.return_, 1) := by decide +kernel
theorem dX8_requireFault_0 : decode cX8_requireFault 0 = .ok (.aload_n 0, 1) := by decide +kernel
theorem dX8_requireFault_1 : decode cX8_requireFault 1 = .ok (.invokevirtual 240, 3) := by decide +kernel
theorem dX8_requireFault_4 : decode cX8_requireFault 4 = .ok (.aload_n 0, 1) := by decide +kernel
theorem dX8_requireFault_5 : decode cX8_requireFault 5 = .ok (.getfield 10, 3) := by decide +kernel
theorem dX8_requireFault_8 : decode cX8_requireFault 8 = .ok (.iload_n 1, 1) := by decide +kernel
theorem dX8_requireFault_9 : decode cX8_requireFault 9 = .ok (.invokevirtual 376, 3) := by decide +kernel
theorem dX8_requireFault_12 : decode cX8_requireFault 12 = .ok (.ifCond .ne 14, 3) := by decide +kernel
theorem dX8_requireFault_15 : decode cX8_requireFault 15 = .ok (.new 248, 3) := by decide +kernel
theorem dX8_requireFault_18 : decode cX8_requireFault 18 = .ok (.dup, 1) := by decide +kernel
theorem dX8_requireFault_19 : decode cX8_requireFault 19 = .ok (.ldc_w 379, 3) := by decide +kernel
theorem dX8_requireFault_22 : decode cX8_requireFault 22 = .ok (.invokespecial 252, 3) := by decide +kernel
theorem dX8_requireFault_25 : decode cX8_requireFault 25 = .ok (.athrow, 1) := by decide +kernel
theorem dX8_requireFault_26 : decode cX8_requireFault 26 = .ok (.return_, 1) := by decide +kernel
theorem dX8_signOfPage_0 : decode cX8_signOfPage 0 = .ok (.iload_n 1, 1) := by decide +kernel
theorem dX8_signOfPage_1 : decode cX8_signOfPage 1 = .ok (.iconst (-1), 1) := by decide +kernel
theorem dX8_signOfPage_2 : decode cX8_signOfPage 2 = .ok (.if_icmp .ne 11, 3) := by decide +kernel
theorem dX8_signOfPage_5 : decode cX8_signOfPage 5 = .ok (.aload_n 0, 1) := by decide +kernel
theorem dX8_signOfPage_6 : decode cX8_signOfPage 6 = .ok (.getfield 67, 3) := by decide +kernel
theorem dX8_signOfPage_9 : decode cX8_signOfPage 9 = .ok (.invokevirtual 85, 3) := by decide +kernel
theorem dX8_signOfPage_12 : decode cX8_signOfPage 12 = .ok (.ireturn, 1) := by decide +kernel
theorem dX8_signOfPage_13 : decode cX8_signOfPage 13 = .ok (.iload_n 1, 1) := by decide +kernel
theorem dX8_signOfPage_14 : decode cX8_signOfPage 14 = .ok (.ifCond .lt 14, 3) := by decide +kernel
theorem dX8_signOfPage_17 : decode cX8_signOfPage 17 = .ok (.iload_n 1, 1) := by decide +kernel
theorem dX8_signOfPage_18 : decode cX8_signOfPage 18 = .ok (.aload_n 0, 1) := by decide +kernel
theorem dX8_signOfPage_19 : decode cX8_signOfPage 19 = .ok (.getfield 67, 3) := by decide +kernel
theorem dX8_signOfPage_22 : decode cX8_signOfPage 22 = .ok (.invokevirtual 85, 3) := by decide +kernel
theorem dX8_signOfPage_25 : decode cX8_signOfPage 25 = .ok (.if_icmp .lt 14, 3) := by decide +kernel
theorem dX8_signOfPage_28 : decode cX8_signOfPage 28 = .ok (.new 156, 3) := by decide +kernel
theorem dX8_signOfPage_31 : decode cX8_signOfPage 31 = .ok (.dup, 1) := by decide +kernel
theorem dX8_signOfPage_32 : decode cX8_signOfPage 32 = .ok (.ldc_w 381, 3) := by decide +kernel
theorem dX8_signOfPage_35 : decode cX8_signOfPage 35 = .ok (.invokespecial 160, 3) := by decide +kernel
theorem dX8_signOfPage_38 : decode cX8_signOfPage 38 = .ok (.athrow, 1) := by decide +kernel
theorem dX8_signOfPage_39 : decode cX8_signOfPage 39 = .ok (.aload_n 0, 1) := by decide +kernel
theorem dX8_signOfPage_40 : decode cX8_signOfPage 40 = .ok (.getfield 67, 3) := by decide +kernel
theorem dX8_signOfPage_43 : decode cX8_signOfPage 43 = .ok (.iload_n 1, 1) := by decide +kernel
theorem dX8_signOfPage_44 : decode cX8_signOfPage 44 = .ok (.invokevirtual 383, 3) := by decide +kernel
theorem dX8_signOfPage_47 : decode cX8_signOfPage 47 = .ok (.ireturn, 1) := by decide +kernel
theorem dX8_costIfReplaced_0 : decode cX8_costIfReplaced 0 = .ok (.aload_n 0, 1) := by decide +kernel
theorem dX8_costIfReplaced_1 : decode cX8_costIfReplaced 1 = .ok (.getfield 20, 3) := by decide +kernel
theorem dX8_costIfReplaced_4 : decode cX8_costIfReplaced 4 = .ok (.getfield 122, 3) := by decide +kernel
theorem dX8_costIfReplaced_7 : decode cX8_costIfReplaced 7 = .ok (.iload_n 1, 1) := by decide +kernel
theorem dX8_costIfReplaced_8 : decode cX8_costIfReplaced 8 = .ok (.iload_n 2, 1) := by decide +kernel
theorem dX8_costIfReplaced_9 : decode cX8_costIfReplaced 9 = .ok (.invokevirtual 184, 3) := by decide +kernel
theorem dX8_costIfReplaced_12 : decode cX8_costIfReplaced 12 = .ok (.istore_n 3, 1) := by decide +kernel
theorem dX8_costIfReplaced_13 : decode cX8_costIfReplaced 13 = .ok (.aload_n 0, 1) := by decide +kernel
theorem dX8_costIfReplaced_14 : decode cX8_costIfReplaced 14 = .ok (.getfield 10, 3) := by decide +kernel
theorem dX8_costIfReplaced_17 : decode cX8_costIfReplaced 17 = .ok (.invokevirtual 316, 3) := by decide +kernel
theorem dX8_costIfReplaced_20 : decode cX8_costIfReplaced 20 = .ok (.istore 4, 2) := by decide +kernel
theorem dX8_costIfReplaced_22 : decode cX8_costIfReplaced 22 = .ok (.aload_n 0, 1) := by decide +kernel
theorem dX8_costIfReplaced_23 : decode cX8_costIfReplaced 23 = .ok (.getfield 20, 3) := by decide +kernel
theorem dX8_costIfReplaced_26 : decode cX8_costIfReplaced 26 = .ok (.getfield 122, 3) := by decide +kernel
theorem dX8_costIfReplaced_29 : decode cX8_costIfReplaced 29 = .ok (.iload_n 1, 1) := by decide +kernel
theorem dX8_costIfReplaced_30 : decode cX8_costIfReplaced 30 = .ok (.iload_n 3, 1) := by decide +kernel
theorem dX8_costIfReplaced_31 : decode cX8_costIfReplaced 31 = .ok (.invokevirtual 184, 3) := by decide +kernel
theorem dX8_costIfReplaced_34 : decode cX8_costIfReplaced 34 = .ok (.pop, 1) := by decide +kernel
theorem dX8_costIfReplaced_35 : decode cX8_costIfReplaced 35 = .ok (.iload 4, 2) := by decide +kernel
theorem dX8_costIfReplaced_37 : decode cX8_costIfReplaced 37 = .ok (.ireturn, 1) := by decide +kernel
theorem dX8_isCode_0 : decode cX8_isCode 0 = .ok (.iload_n 0, 1) := by decide +kernel
theorem dX8_isCode_1 : decode cX8_isCode 1 = .ok (.bipush 42, 2) := by decide +kernel
theorem dX8_isCode_3 : decode cX8_isCode 3 = .ok (.if_icmp .lt 14, 3) := by decide +kernel
theorem dX8_isCode_6 : decode cX8_isCode 6 = .ok (.iload_n 0, 1) := by decide +kernel
theorem dX8_isCode_7 : decode cX8_isCode 7 = .ok (.sipush 146, 3) := by decide +kernel
theorem dX8_isCode_10 : decode cX8_isCode 10 = .ok (.if_icmp .gt 7, 3) := by decide +kernel
theorem dX8_isCode_13 : decode cX8_isCode 13 = .ok (.iconst 1, 1) := by decide +kernel
theorem dX8_isCode_14 : decode cX8_isCode 14 = .ok (.goto 4, 3) := by decide +kernel
theorem dX8_isCode_17 : decode cX8_isCode 17 = .ok (.iconst 0, 1) := by decide +kernel
theorem dX8_isCode_18 : decode cX8_isCode 18 = .ok (.ireturn, 1) := by decide +kernel
theorem dX8_stepOf_0 : decode cX8_stepOf 0 = .ok (.iload_n 0, 1) := by decide +kernel
theorem dX8_stepOf_1 : decode cX8_stepOf 1 = .ok (.iconst 3, 1) := by decide +kernel
theorem dX8_stepOf_2 : decode cX8_stepOf 2 = .ok (.idiv, 1) := by decide +kernel
theorem dX8_stepOf_3 : decode cX8_stepOf 3 = .ok (.ireturn, 1) := by decide +kernel
theorem dX8_alterationOf_0 : decode cX8_alterationOf 0 = .ok (.iload_n 0, 1) := by decide +kernel
theorem dX8_alterationOf_1 : decode cX8_alterationOf 1 = .ok (.iconst 3, 1) := by decide +kernel
theorem dX8_alterationOf_2 : decode cX8_alterationOf 2 = .ok (.irem, 1) := by decide +kernel
theorem dX8_alterationOf_3 : decode cX8_alterationOf 3 = .ok (.iconst 1, 1) := by decide +kernel
theorem dX8_alterationOf_4 : decode cX8_alterationOf 4 = .ok (.isub, 1) := by decide +kernel
theorem dX8_alterationOf_5 : decode cX8_alterationOf 5 = .ok (.ireturn, 1) := by decide +kernel
theorem dX8_pitchOf_0 : decode cX8_pitchOf 0 = .ok (.iload_n 0, 1) := by decide +kernel
theorem dX8_pitchOf_1 : decode cX8_pitchOf 1 = .ok (.iconst 3, 1) := by decide +kernel
theorem dX8_pitchOf_2 : decode cX8_pitchOf 2 = .ok (.idiv, 1) := by decide +kernel
theorem dX8_pitchOf_3 : decode cX8_pitchOf 3 = .ok (.bipush 7, 2) := by decide +kernel
theorem dX8_pitchOf_5 : decode cX8_pitchOf 5 = .ok (.irem, 1) := by decide +kernel
theorem dX8_pitchOf_6 : decode cX8_pitchOf 6 = .ok (.istore_n 1, 1) := by decide +kernel
theorem dX8_pitchOf_7 : decode cX8_pitchOf 7 = .ok (.iload_n 1, 1) := by decide +kernel
theorem dX8_pitchOf_8 : decode cX8_pitchOf 8 = .ok (.iconst 3, 1) := by decide +kernel
theorem dX8_pitchOf_9 : decode cX8_pitchOf 9 = .ok (.if_icmp .ge 9, 3) := by decide +kernel
theorem dX8_pitchOf_12 : decode cX8_pitchOf 12 = .ok (.iconst 2, 1) := by decide +kernel
theorem dX8_pitchOf_13 : decode cX8_pitchOf 13 = .ok (.iload_n 1, 1) := by decide +kernel
theorem dX8_pitchOf_14 : decode cX8_pitchOf 14 = .ok (.imul, 1) := by decide +kernel
theorem dX8_pitchOf_15 : decode cX8_pitchOf 15 = .ok (.goto 8, 3) := by decide +kernel
theorem dX8_pitchOf_18 : decode cX8_pitchOf 18 = .ok (.iconst 2, 1) := by decide +kernel
theorem dX8_pitchOf_19 : decode cX8_pitchOf 19 = .ok (.iload_n 1, 1) := by decide +kernel
theorem dX8_pitchOf_20 : decode cX8_pitchOf 20 = .ok (.imul, 1) := by decide +kernel
theorem dX8_pitchOf_21 : decode cX8_pitchOf 21 = .ok (.iconst 1, 1) := by decide +kernel
theorem dX8_pitchOf_22 : decode cX8_pitchOf 22 = .ok (.isub, 1) := by decide +kernel
theorem dX8_pitchOf_23 : decode cX8_pitchOf 23 = .ok (.istore_n 2, 1) := by decide +kernel
theorem dX8_pitchOf_24 : decode cX8_pitchOf 24 = .ok (.bipush 12, 2) := by decide +kernel
theorem dX8_pitchOf_26 : decode cX8_pitchOf 26 = .ok (.iload_n 0, 1) := by decide +kernel
theorem dX8_pitchOf_27 : decode cX8_pitchOf 27 = .ok (.bipush 21, 2) := by decide +kernel
theorem dX8_pitchOf_29 : decode cX8_pitchOf 29 = .ok (.idiv, 1) := by decide +kernel
theorem dX8_pitchOf_30 : decode cX8_pitchOf 30 = .ok (.imul, 1) := by decide +kernel
theorem dX8_pitchOf_31 : decode cX8_pitchOf 31 = .ok (.iload_n 2, 1) := by decide +kernel
theorem dX8_pitchOf_32 : decode cX8_pitchOf 32 = .ok (.iadd, 1) := by decide +kernel
theorem dX8_pitchOf_33 : decode cX8_pitchOf 33 = .ok (.iload_n 0, 1) := by decide +kernel
theorem dX8_pitchOf_34 : decode cX8_pitchOf 34 = .ok (.iconst 3, 1) := by decide +kernel
theorem dX8_pitchOf_35 : decode cX8_pitchOf 35 = .ok (.irem, 1) := by decide +kernel
theorem dX8_pitchOf_36 : decode cX8_pitchOf 36 = .ok (.iadd, 1) := by decide +kernel
theorem dX8_pitchOf_37 : decode cX8_pitchOf 37 = .ok (.iconst 1, 1) := by decide +kernel
theorem dX8_pitchOf_38 : decode cX8_pitchOf 38 = .ok (.isub, 1) := by decide +kernel
theorem dX8_pitchOf_39 : decode cX8_pitchOf 39 = .ok (.ireturn, 1) := by decide +kernel
theorem dX8_nameOf_0 : decode cX8_nameOf 0 = .ok (.iload_n 0, 1) := by decide +kernel
theorem dX8_nameOf_1 : decode cX8_nameOf 1 = .ok (.tableswitch 143 1 16 #[79, 83, 87, 91, 95, 99, 103, 107, 111, 115, 119, 123, 127, 131, 135, 139], 79) := by decide +kernel
theorem dX8_nameOf_80 : decode cX8_nameOf 80 = .ok (.ldc_w 386, 3) := by decide +kernel
theorem dX8_nameOf_83 : decode cX8_nameOf 83 = .ok (.areturn, 1) := by decide +kernel
theorem dX8_nameOf_84 : decode cX8_nameOf 84 = .ok (.ldc_w 388, 3) := by decide +kernel
theorem dX8_nameOf_87 : decode cX8_nameOf 87 = .ok (.areturn, 1) := by decide +kernel
theorem dX8_nameOf_88 : decode cX8_nameOf 88 = .ok (.ldc_w 390, 3) := by decide +kernel
theorem dX8_nameOf_91 : decode cX8_nameOf 91 = .ok (.areturn, 1) := by decide +kernel
theorem dX8_nameOf_92 : decode cX8_nameOf 92 = .ok (.ldc_w 392, 3) := by decide +kernel
theorem dX8_nameOf_95 : decode cX8_nameOf 95 = .ok (.areturn, 1) := by decide +kernel
theorem dX8_nameOf_96 : decode cX8_nameOf 96 = .ok (.ldc_w 394, 3) := by decide +kernel
theorem dX8_nameOf_99 : decode cX8_nameOf 99 = .ok (.areturn, 1) := by decide +kernel
theorem dX8_nameOf_100 : decode cX8_nameOf 100 = .ok (.ldc_w 396, 3) := by decide +kernel
theorem dX8_nameOf_103 : decode cX8_nameOf 103 = .ok (.areturn, 1) := by decide +kernel
theorem dX8_nameOf_104 : decode cX8_nameOf 104 = .ok (.ldc_w 398, 3) := by decide +kernel
theorem dX8_nameOf_107 : decode cX8_nameOf 107 = .ok (.areturn, 1) := by decide +kernel
theorem dX8_nameOf_108 : decode cX8_nameOf 108 = .ok (.ldc_w 400, 3) := by decide +kernel
theorem dX8_nameOf_111 : decode cX8_nameOf 111 = .ok (.areturn, 1) := by decide +kernel
theorem dX8_nameOf_112 : decode cX8_nameOf 112 = .ok (.ldc_w 402, 3) := by decide +kernel
theorem dX8_nameOf_115 : decode cX8_nameOf 115 = .ok (.areturn, 1) := by decide +kernel
theorem dX8_nameOf_116 : decode cX8_nameOf 116 = .ok (.ldc_w 404, 3) := by decide +kernel
theorem dX8_nameOf_119 : decode cX8_nameOf 119 = .ok (.areturn, 1) := by decide +kernel
theorem dX8_nameOf_120 : decode cX8_nameOf 120 = .ok (.ldc_w 406, 3) := by decide +kernel
theorem dX8_nameOf_123 : decode cX8_nameOf 123 = .ok (.areturn, 1) := by decide +kernel
theorem dX8_nameOf_124 : decode cX8_nameOf 124 = .ok (.ldc_w 408, 3) := by decide +kernel
theorem dX8_nameOf_127 : decode cX8_nameOf 127 = .ok (.areturn, 1) := by decide +kernel
theorem dX8_nameOf_128 : decode cX8_nameOf 128 = .ok (.ldc_w 410, 3) := by decide +kernel
theorem dX8_nameOf_131 : decode cX8_nameOf 131 = .ok (.areturn, 1) := by decide +kernel
theorem dX8_nameOf_132 : decode cX8_nameOf 132 = .ok (.ldc_w 412, 3) := by decide +kernel
theorem dX8_nameOf_135 : decode cX8_nameOf 135 = .ok (.areturn, 1) := by decide +kernel
theorem dX8_nameOf_136 : decode cX8_nameOf 136 = .ok (.ldc_w 414, 3) := by decide +kernel
theorem dX8_nameOf_139 : decode cX8_nameOf 139 = .ok (.areturn, 1) := by decide +kernel
theorem dX8_nameOf_140 : decode cX8_nameOf 140 = .ok (.ldc_w 416, 3) := by decide +kernel
theorem dX8_nameOf_143 : decode cX8_nameOf 143 = .ok (.areturn, 1) := by decide +kernel
theorem dX8_nameOf_144 : decode cX8_nameOf 144 = .ok (.ldc_w 418, 3) := by decide +kernel
theorem dX8_nameOf_147 : decode cX8_nameOf 147 = .ok (.areturn, 1) := by decide +kernel
theorem dX8_quotientBits_0 : decode cX8_quotientBits 0 = .ok (.lload_n 0, 1) := by decide +kernel
theorem dX8_quotientBits_1 : decode cX8_quotientBits 1 = .ok (.lconst 0, 1) := by decide +kernel
theorem dX8_quotientBits_2 : decode cX8_quotientBits 2 = .ok (.lcmp, 1) := by decide +kernel
theorem dX8_quotientBits_3 : decode cX8_quotientBits 3 = .ok (.ifCond .le 9, 3) := by decide +kernel
theorem dX8_quotientBits_6 : decode cX8_quotientBits 6 = .ok (.lload_n 2, 1) := by decide +kernel
theorem dX8_quotientBits_7 : decode cX8_quotientBits 7 = .ok (.lconst 0, 1) := by decide +kernel
theorem dX8_quotientBits_8 : decode cX8_quotientBits 8 = .ok (.lcmp, 1) := by decide +kernel
theorem dX8_quotientBits_9 : decode cX8_quotientBits 9 = .ok (.ifCond .gt 5, 3) := by decide +kernel
theorem dX8_quotientBits_12 : decode cX8_quotientBits 12 = .ok (.lconst 0, 1) := by decide +kernel
theorem dX8_quotientBits_13 : decode cX8_quotientBits 13 = .ok (.lreturn, 1) := by decide +kernel
theorem dX8_quotientBits_14 : decode cX8_quotientBits 14 = .ok (.lload_n 0, 1) := by decide +kernel
theorem dX8_quotientBits_15 : decode cX8_quotientBits 15 = .ok (.lstore 6, 2) := by decide +kernel
theorem dX8_quotientBits_17 : decode cX8_quotientBits 17 = .ok (.iload 4, 2) := by decide +kernel
theorem dX8_quotientBits_19 : decode cX8_quotientBits 19 = .ok (.istore 8, 2) := by decide +kernel
theorem dX8_quotientBits_21 : decode cX8_quotientBits 21 = .ok (.iconst 0, 1) := by decide +kernel
theorem dX8_quotientBits_22 : decode cX8_quotientBits 22 = .ok (.istore 9, 2) := by decide +kernel
theorem dX8_quotientBits_24 : decode cX8_quotientBits 24 = .ok (.iload 9, 2) := by decide +kernel
theorem dX8_quotientBits_26 : decode cX8_quotientBits 26 = .ok (.bipush 64, 2) := by decide +kernel
theorem dX8_quotientBits_28 : decode cX8_quotientBits 28 = .ok (.if_icmp .ge 30, 3) := by decide +kernel
theorem dX8_quotientBits_31 : decode cX8_quotientBits 31 = .ok (.lload 6, 2) := by decide +kernel
theorem dX8_quotientBits_33 : decode cX8_quotientBits 33 = .ok (.lload_n 2, 1) := by decide +kernel
theorem dX8_quotientBits_34 : decode cX8_quotientBits 34 = .ok (.ldiv, 1) := by decide +kernel
theorem dX8_quotientBits_35 : decode cX8_quotientBits 35 = .ok (.lconst 1, 1) := by decide +kernel
theorem dX8_quotientBits_36 : decode cX8_quotientBits 36 = .ok (.iload 4, 2) := by decide +kernel
theorem dX8_quotientBits_38 : decode cX8_quotientBits 38 = .ok (.lshl, 1) := by decide +kernel
theorem dX8_quotientBits_39 : decode cX8_quotientBits 39 = .ok (.lcmp, 1) := by decide +kernel
theorem dX8_quotientBits_40 : decode cX8_quotientBits 40 = .ok (.ifCond .ge 18, 3) := by decide +kernel
theorem dX8_quotientBits_43 : decode cX8_quotientBits 43 = .ok (.lload 6, 2) := by decide +kernel
theorem dX8_quotientBits_45 : decode cX8_quotientBits 45 = .ok (.iconst 1, 1) := by decide +kernel
theorem dX8_quotientBits_46 : decode cX8_quotientBits 46 = .ok (.lshl, 1) := by decide +kernel
theorem dX8_quotientBits_47 : decode cX8_quotientBits 47 = .ok (.lstore 6, 2) := by decide +kernel
theorem dX8_quotientBits_49 : decode cX8_quotientBits 49 = .ok (.iinc 8 (-1), 3) := by decide +kernel
theorem dX8_quotientBits_52 : decode cX8_quotientBits 52 = .ok (.iinc 9 1, 3) := by decide +kernel
theorem dX8_quotientBits_55 : decode cX8_quotientBits 55 = .ok (.goto (-31), 3) := by decide +kernel
theorem dX8_quotientBits_58 : decode cX8_quotientBits 58 = .ok (.lload 6, 2) := by decide +kernel
theorem dX8_quotientBits_60 : decode cX8_quotientBits 60 = .ok (.lload_n 2, 1) := by decide +kernel
theorem dX8_quotientBits_61 : decode cX8_quotientBits 61 = .ok (.ldiv, 1) := by decide +kernel
theorem dX8_quotientBits_62 : decode cX8_quotientBits 62 = .ok (.lstore 9, 2) := by decide +kernel
theorem dX8_quotientBits_64 : decode cX8_quotientBits 64 = .ok (.lload 6, 2) := by decide +kernel
theorem dX8_quotientBits_66 : decode cX8_quotientBits 66 = .ok (.lload_n 2, 1) := by decide +kernel
theorem dX8_quotientBits_67 : decode cX8_quotientBits 67 = .ok (.lrem, 1) := by decide +kernel
theorem dX8_quotientBits_68 : decode cX8_quotientBits 68 = .ok (.lstore 11, 2) := by decide +kernel
theorem dX8_quotientBits_70 : decode cX8_quotientBits 70 = .ok (.ldc2_w 420, 3) := by decide +kernel
theorem dX8_quotientBits_73 : decode cX8_quotientBits 73 = .ok (.lload 11, 2) := by decide +kernel
theorem dX8_quotientBits_75 : decode cX8_quotientBits 75 = .ok (.lmul, 1) := by decide +kernel
theorem dX8_quotientBits_76 : decode cX8_quotientBits 76 = .ok (.lload_n 2, 1) := by decide +kernel
theorem dX8_quotientBits_77 : decode cX8_quotientBits 77 = .ok (.lcmp, 1) := by decide +kernel
theorem dX8_quotientBits_78 : decode cX8_quotientBits 78 = .ok (.ifCond .gt 23, 3) := by decide +kernel
theorem dX8_quotientBits_81 : decode cX8_quotientBits 81 = .ok (.ldc2_w 420, 3) := by decide +kernel
theorem dX8_quotientBits_84 : decode cX8_quotientBits 84 = .ok (.lload 11, 2) := by decide +kernel
theorem dX8_quotientBits_86 : decode cX8_quotientBits 86 = .ok (.lmul, 1) := by decide +kernel
theorem dX8_quotientBits_87 : decode cX8_quotientBits 87 = .ok (.lload_n 2, 1) := by decide +kernel
theorem dX8_quotientBits_88 : decode cX8_quotientBits 88 = .ok (.lcmp, 1) := by decide +kernel
theorem dX8_quotientBits_89 : decode cX8_quotientBits 89 = .ok (.ifCond .ne 18, 3) := by decide +kernel
theorem dX8_quotientBits_92 : decode cX8_quotientBits 92 = .ok (.lload 9, 2) := by decide +kernel
theorem dX8_quotientBits_94 : decode cX8_quotientBits 94 = .ok (.lconst 1, 1) := by decide +kernel
theorem dX8_quotientBits_95 : decode cX8_quotientBits 95 = .ok (.land, 1) := by decide +kernel
theorem dX8_quotientBits_96 : decode cX8_quotientBits 96 = .ok (.lconst 1, 1) := by decide +kernel
theorem dX8_quotientBits_97 : decode cX8_quotientBits 97 = .ok (.lcmp, 1) := by decide +kernel
theorem dX8_quotientBits_98 : decode cX8_quotientBits 98 = .ok (.ifCond .ne 9, 3) := by decide +kernel
theorem dX8_quotientBits_101 : decode cX8_quotientBits 101 = .ok (.lload 9, 2) := by decide +kernel
theorem dX8_quotientBits_103 : decode cX8_quotientBits 103 = .ok (.lconst 1, 1) := by decide +kernel
theorem dX8_quotientBits_104 : decode cX8_quotientBits 104 = .ok (.ladd, 1) := by decide +kernel
theorem dX8_quotientBits_105 : decode cX8_quotientBits 105 = .ok (.lstore 9, 2) := by decide +kernel
theorem dX8_quotientBits_107 : decode cX8_quotientBits 107 = .ok (.iload 8, 2) := by decide +kernel
theorem dX8_quotientBits_109 : decode cX8_quotientBits 109 = .ok (.iload 5, 2) := by decide +kernel
theorem dX8_quotientBits_111 : decode cX8_quotientBits 111 = .ok (.iadd, 1) := by decide +kernel
theorem dX8_quotientBits_112 : decode cX8_quotientBits 112 = .ok (.iconst 1, 1) := by decide +kernel
theorem dX8_quotientBits_113 : decode cX8_quotientBits 113 = .ok (.isub, 1) := by decide +kernel
theorem dX8_quotientBits_114 : decode cX8_quotientBits 114 = .ok (.i2l, 1) := by decide +kernel
theorem dX8_quotientBits_115 : decode cX8_quotientBits 115 = .ok (.iload 4, 2) := by decide +kernel
theorem dX8_quotientBits_117 : decode cX8_quotientBits 117 = .ok (.lshl, 1) := by decide +kernel
theorem dX8_quotientBits_118 : decode cX8_quotientBits 118 = .ok (.lload 9, 2) := by decide +kernel
theorem dX8_quotientBits_120 : decode cX8_quotientBits 120 = .ok (.ladd, 1) := by decide +kernel
theorem dX8_quotientBits_121 : decode cX8_quotientBits 121 = .ok (.lreturn, 1) := by decide +kernel
